/-! part 80.a: the law: cases (gen/gen80.py) -/
set_option maxRecDepth 100000 in
theorem jx_i439 : jx_I jv_T2 439 8 (some .boolean) 17 828 jv_c439 := ⟨rfl, rfl, rfl, rfl, rfl⟩
set_option maxRecDepth 100000 in
theorem jx_i440 : jx_I jv_T2 440 8 (some .int) 7 115 jv_c440 := ⟨rfl, rfl, rfl, rfl, rfl⟩
set_option maxRecDepth 100000 in
theorem jv_i418 : jv_I 418 6 (some .int) 6 90 jv_c418 := ⟨rfl, rfl, rfl, rfl, rfl⟩
set_option maxRecDepth 100000 in
theorem jv_i188 : jv_I 188 3 none 0 0 jv_c188 := ⟨rfl, rfl, rfl, rfl, rfl⟩
set_option maxRecDepth 100000 in
/-- ProgramBox.type -/
theorem jx_e1 (p0 : Int32) (p1 : Int32) (p2 : Int32) (p3 : Int32) (p4 : Int32) (p5 : Int32)  : jv_Ms 188 [.ref 0, .int p1] (jv_H (jx_K 227) jx_If jx_L0 (jx_R 227)) 227 1572950 (none, (jv_H (jx_K 227) (jv_u (jv_u (jv_u (jv_u (jv_u (jv_u (jv_u (jv_u jx_If 1 (0 : Int32).toNatClampNeg (p1 >>> ((24 : Int32) &&& 31)).toInt8.toInt32.toInt8.toInt32) 0 1 (1 : Int32)) 1 (1 : Int32).toNatClampNeg (p1 >>> ((16 : Int32) &&& 31)).toInt8.toInt32.toInt8.toInt32) 0 1 (2 : Int32)) 1 (2 : Int32).toNatClampNeg (p1 >>> ((8 : Int32) &&& 31)).toInt8.toInt32.toInt8.toInt32) 0 1 (3 : Int32)) 1 (3 : Int32).toNatClampNeg (p1 >>> ((0 : Int32) &&& 31)).toInt8.toInt32.toInt8.toInt32) 0 1 (4 : Int32)) jx_L0 (jx_R 227)), 227, 1572950) := by
  show jv_Ev 188 0 [(0, .ref 0), (1, .int p1)] [] (jv_H (jx_K 227) jx_If jx_L0 (jx_R 227)) 227 1572950 _
  refine jv_Ev.steps jv_i188 3 (pc' := 4) (l' := [(2, .int (24 : Int32)), (0, .ref 0), (1, .int p1)]) (st' := [.int (24 : Int32)]) rfl ?_
  refine jv_Ev.br jv_i188 (pc' := 7) (st' := []) rfl (jv_bi_lt.trans (jx_gof (by decide))) ?_
  refine jv_Ev.steps jv_i188 1 (pc' := 8) (l' := [(2, .int (24 : Int32)), (0, .ref 0), (1, .int p1)]) (st' := [.ref 0]) rfl ?_
  refine jv_Ev.m jv_i188 (pc' := 11) (st' := [.ref 1]) rfl rfl (jv_m_getR rfl rfl rfl rfl) ?_
  refine jv_Ev.steps jv_i188 1 (pc' := 12) (l' := [(2, .int (24 : Int32)), (0, .ref 0), (1, .int p1)]) (st' := [.ref 0, .ref 1]) rfl ?_
  refine jv_Ev.m jv_i188 (pc' := 15) (st' := [.int (0 : Int32), .ref 1]) rfl rfl (jv_m_getI rfl rfl rfl rfl) ?_
  refine jv_Ev.steps jv_i188 4 (pc' := 19) (l' := [(2, .int (24 : Int32)), (0, .ref 0), (1, .int p1)]) (st' := [.int (p1 >>> ((24 : Int32) &&& 31)).toInt8.toInt32, .int (0 : Int32), .ref 1]) rfl ?_
  refine jv_Ev.m jv_i188 (pc' := 20) (st' := []) rfl rfl (jv_m_bast rfl (by decide)) ?_
  refine jv_Ev.steps jv_i188 2 (pc' := 22) (l' := [(2, .int (24 : Int32)), (0, .ref 0), (1, .int p1)]) (st' := [.ref 0, .ref 0]) rfl ?_
  refine jv_Ev.m jv_i188 (pc' := 25) (st' := [.int (0 : Int32), .ref 0]) rfl rfl (jv_m_getI rfl rfl rfl rfl) ?_
  refine jv_Ev.steps jv_i188 2 (pc' := 27) (l' := [(2, .int (24 : Int32)), (0, .ref 0), (1, .int p1)]) (st' := [.int (1 : Int32), .ref 0]) rfl ?_
  refine jv_Ev.m jv_i188 (pc' := 30) (st' := []) rfl rfl (jv_m_putI rfl rfl rfl rfl rfl) ?_
  refine jv_Ev.steps jv_i188 3 (pc' := 4) (l' := [(2, .int (16 : Int32)), (0, .ref 0), (1, .int p1)]) (st' := [.int (16 : Int32)]) rfl ?_
  refine jv_Ev.br jv_i188 (pc' := 7) (st' := []) rfl (jv_bi_lt.trans (jx_gof (by decide))) ?_
  refine jv_Ev.steps jv_i188 1 (pc' := 8) (l' := [(2, .int (16 : Int32)), (0, .ref 0), (1, .int p1)]) (st' := [.ref 0]) rfl ?_
  refine jv_Ev.m jv_i188 (pc' := 11) (st' := [.ref 1]) rfl rfl (jv_m_getR rfl rfl rfl rfl) ?_
  refine jv_Ev.steps jv_i188 1 (pc' := 12) (l' := [(2, .int (16 : Int32)), (0, .ref 0), (1, .int p1)]) (st' := [.ref 0, .ref 1]) rfl ?_
  refine jv_Ev.m jv_i188 (pc' := 15) (st' := [.int (1 : Int32), .ref 1]) rfl rfl (jv_m_getI rfl rfl rfl rfl) ?_
  refine jv_Ev.steps jv_i188 4 (pc' := 19) (l' := [(2, .int (16 : Int32)), (0, .ref 0), (1, .int p1)]) (st' := [.int (p1 >>> ((16 : Int32) &&& 31)).toInt8.toInt32, .int (1 : Int32), .ref 1]) rfl ?_
  refine jv_Ev.m jv_i188 (pc' := 20) (st' := []) rfl rfl (jv_m_bast rfl (by decide)) ?_
  refine jv_Ev.steps jv_i188 2 (pc' := 22) (l' := [(2, .int (16 : Int32)), (0, .ref 0), (1, .int p1)]) (st' := [.ref 0, .ref 0]) rfl ?_
  refine jv_Ev.m jv_i188 (pc' := 25) (st' := [.int (1 : Int32), .ref 0]) rfl rfl (jv_m_getI rfl rfl rfl rfl) ?_
  refine jv_Ev.steps jv_i188 2 (pc' := 27) (l' := [(2, .int (16 : Int32)), (0, .ref 0), (1, .int p1)]) (st' := [.int (2 : Int32), .ref 0]) rfl ?_
  refine jv_Ev.m jv_i188 (pc' := 30) (st' := []) rfl rfl (jv_m_putI rfl rfl rfl rfl rfl) ?_
  refine jv_Ev.steps jv_i188 3 (pc' := 4) (l' := [(2, .int (8 : Int32)), (0, .ref 0), (1, .int p1)]) (st' := [.int (8 : Int32)]) rfl ?_
  refine jv_Ev.br jv_i188 (pc' := 7) (st' := []) rfl (jv_bi_lt.trans (jx_gof (by decide))) ?_
  refine jv_Ev.steps jv_i188 1 (pc' := 8) (l' := [(2, .int (8 : Int32)), (0, .ref 0), (1, .int p1)]) (st' := [.ref 0]) rfl ?_
  refine jv_Ev.m jv_i188 (pc' := 11) (st' := [.ref 1]) rfl rfl (jv_m_getR rfl rfl rfl rfl) ?_
  refine jv_Ev.steps jv_i188 1 (pc' := 12) (l' := [(2, .int (8 : Int32)), (0, .ref 0), (1, .int p1)]) (st' := [.ref 0, .ref 1]) rfl ?_
  refine jv_Ev.m jv_i188 (pc' := 15) (st' := [.int (2 : Int32), .ref 1]) rfl rfl (jv_m_getI rfl rfl rfl rfl) ?_
  refine jv_Ev.steps jv_i188 4 (pc' := 19) (l' := [(2, .int (8 : Int32)), (0, .ref 0), (1, .int p1)]) (st' := [.int (p1 >>> ((8 : Int32) &&& 31)).toInt8.toInt32, .int (2 : Int32), .ref 1]) rfl ?_
  refine jv_Ev.m jv_i188 (pc' := 20) (st' := []) rfl rfl (jv_m_bast rfl (by decide)) ?_
  refine jv_Ev.steps jv_i188 2 (pc' := 22) (l' := [(2, .int (8 : Int32)), (0, .ref 0), (1, .int p1)]) (st' := [.ref 0, .ref 0]) rfl ?_
  refine jv_Ev.m jv_i188 (pc' := 25) (st' := [.int (2 : Int32), .ref 0]) rfl rfl (jv_m_getI rfl rfl rfl rfl) ?_
  refine jv_Ev.steps jv_i188 2 (pc' := 27) (l' := [(2, .int (8 : Int32)), (0, .ref 0), (1, .int p1)]) (st' := [.int (3 : Int32), .ref 0]) rfl ?_
  refine jv_Ev.m jv_i188 (pc' := 30) (st' := []) rfl rfl (jv_m_putI rfl rfl rfl rfl rfl) ?_
  refine jv_Ev.steps jv_i188 3 (pc' := 4) (l' := [(2, .int (0 : Int32)), (0, .ref 0), (1, .int p1)]) (st' := [.int (0 : Int32)]) rfl ?_
  refine jv_Ev.br jv_i188 (pc' := 7) (st' := []) rfl (jv_bi_lt.trans (jx_gof (by decide))) ?_
  refine jv_Ev.steps jv_i188 1 (pc' := 8) (l' := [(2, .int (0 : Int32)), (0, .ref 0), (1, .int p1)]) (st' := [.ref 0]) rfl ?_
  refine jv_Ev.m jv_i188 (pc' := 11) (st' := [.ref 1]) rfl rfl (jv_m_getR rfl rfl rfl rfl) ?_
  refine jv_Ev.steps jv_i188 1 (pc' := 12) (l' := [(2, .int (0 : Int32)), (0, .ref 0), (1, .int p1)]) (st' := [.ref 0, .ref 1]) rfl ?_
  refine jv_Ev.m jv_i188 (pc' := 15) (st' := [.int (3 : Int32), .ref 1]) rfl rfl (jv_m_getI rfl rfl rfl rfl) ?_
  refine jv_Ev.steps jv_i188 4 (pc' := 19) (l' := [(2, .int (0 : Int32)), (0, .ref 0), (1, .int p1)]) (st' := [.int (p1 >>> ((0 : Int32) &&& 31)).toInt8.toInt32, .int (3 : Int32), .ref 1]) rfl ?_
  refine jv_Ev.m jv_i188 (pc' := 20) (st' := []) rfl rfl (jv_m_bast rfl (by decide)) ?_
  refine jv_Ev.steps jv_i188 2 (pc' := 22) (l' := [(2, .int (0 : Int32)), (0, .ref 0), (1, .int p1)]) (st' := [.ref 0, .ref 0]) rfl ?_
  refine jv_Ev.m jv_i188 (pc' := 25) (st' := [.int (3 : Int32), .ref 0]) rfl rfl (jv_m_getI rfl rfl rfl rfl) ?_
  refine jv_Ev.steps jv_i188 2 (pc' := 27) (l' := [(2, .int (0 : Int32)), (0, .ref 0), (1, .int p1)]) (st' := [.int (4 : Int32), .ref 0]) rfl ?_
  refine jv_Ev.m jv_i188 (pc' := 30) (st' := []) rfl rfl (jv_m_putI rfl rfl rfl rfl rfl) ?_
  refine jv_Ev.steps jv_i188 3 (pc' := 4) (l' := [(2, .int (-8 : Int32)), (0, .ref 0), (1, .int p1)]) (st' := [.int (-8 : Int32)]) rfl ?_
  refine jv_Ev.br jv_i188 (pc' := 36) (st' := []) rfl (jv_bi_lt.trans (jx_got (by decide))) ?_
  exact jv_Ev.ret jv_i188 rfl rfl

set_option maxRecDepth 100000 in
/-- ProgramBox.type -/
theorem jx_e2 (p0 : Int32) (p1 : Int32) (p2 : Int32) (p3 : Int32) (p4 : Int32) (p5 : Int32)  : jv_Ms 188 [.ref 0, .int p2] (jv_H (jx_K 227) (jv_u (jv_u (jv_u (jv_u (jv_u (jv_u (jv_u (jv_u jx_If 1 (0 : Int32).toNatClampNeg (p1 >>> ((24 : Int32) &&& 31)).toInt8.toInt32.toInt8.toInt32) 0 1 (1 : Int32)) 1 (1 : Int32).toNatClampNeg (p1 >>> ((16 : Int32) &&& 31)).toInt8.toInt32.toInt8.toInt32) 0 1 (2 : Int32)) 1 (2 : Int32).toNatClampNeg (p1 >>> ((8 : Int32) &&& 31)).toInt8.toInt32.toInt8.toInt32) 0 1 (3 : Int32)) 1 (3 : Int32).toNatClampNeg (p1 >>> ((0 : Int32) &&& 31)).toInt8.toInt32.toInt8.toInt32) 0 1 (4 : Int32)) jx_L0 (jx_R 227)) 227 1572950 (none, (jv_H (jx_K 227) (jv_u (jv_u (jv_u (jv_u (jv_u (jv_u (jv_u (jv_u (jv_u (jv_u (jv_u (jv_u (jv_u (jv_u (jv_u (jv_u jx_If 1 (0 : Int32).toNatClampNeg (p1 >>> ((24 : Int32) &&& 31)).toInt8.toInt32.toInt8.toInt32) 0 1 (1 : Int32)) 1 (1 : Int32).toNatClampNeg (p1 >>> ((16 : Int32) &&& 31)).toInt8.toInt32.toInt8.toInt32) 0 1 (2 : Int32)) 1 (2 : Int32).toNatClampNeg (p1 >>> ((8 : Int32) &&& 31)).toInt8.toInt32.toInt8.toInt32) 0 1 (3 : Int32)) 1 (3 : Int32).toNatClampNeg (p1 >>> ((0 : Int32) &&& 31)).toInt8.toInt32.toInt8.toInt32) 0 1 (4 : Int32)) 1 (4 : Int32).toNatClampNeg (p2 >>> ((24 : Int32) &&& 31)).toInt8.toInt32.toInt8.toInt32) 0 1 (5 : Int32)) 1 (5 : Int32).toNatClampNeg (p2 >>> ((16 : Int32) &&& 31)).toInt8.toInt32.toInt8.toInt32) 0 1 (6 : Int32)) 1 (6 : Int32).toNatClampNeg (p2 >>> ((8 : Int32) &&& 31)).toInt8.toInt32.toInt8.toInt32) 0 1 (7 : Int32)) 1 (7 : Int32).toNatClampNeg (p2 >>> ((0 : Int32) &&& 31)).toInt8.toInt32.toInt8.toInt32) 0 1 (8 : Int32)) jx_L0 (jx_R 227)), 227, 1572950) := by
  show jv_Ev 188 0 [(0, .ref 0), (1, .int p2)] [] (jv_H (jx_K 227) (jv_u (jv_u (jv_u (jv_u (jv_u (jv_u (jv_u (jv_u jx_If 1 (0 : Int32).toNatClampNeg (p1 >>> ((24 : Int32) &&& 31)).toInt8.toInt32.toInt8.toInt32) 0 1 (1 : Int32)) 1 (1 : Int32).toNatClampNeg (p1 >>> ((16 : Int32) &&& 31)).toInt8.toInt32.toInt8.toInt32) 0 1 (2 : Int32)) 1 (2 : Int32).toNatClampNeg (p1 >>> ((8 : Int32) &&& 31)).toInt8.toInt32.toInt8.toInt32) 0 1 (3 : Int32)) 1 (3 : Int32).toNatClampNeg (p1 >>> ((0 : Int32) &&& 31)).toInt8.toInt32.toInt8.toInt32) 0 1 (4 : Int32)) jx_L0 (jx_R 227)) 227 1572950 _
  refine jv_Ev.steps jv_i188 3 (pc' := 4) (l' := [(2, .int (24 : Int32)), (0, .ref 0), (1, .int p2)]) (st' := [.int (24 : Int32)]) rfl ?_
  refine jv_Ev.br jv_i188 (pc' := 7) (st' := []) rfl (jv_bi_lt.trans (jx_gof (by decide))) ?_
  refine jv_Ev.steps jv_i188 1 (pc' := 8) (l' := [(2, .int (24 : Int32)), (0, .ref 0), (1, .int p2)]) (st' := [.ref 0]) rfl ?_
  refine jv_Ev.m jv_i188 (pc' := 11) (st' := [.ref 1]) rfl rfl (jv_m_getR rfl rfl rfl rfl) ?_
  refine jv_Ev.steps jv_i188 1 (pc' := 12) (l' := [(2, .int (24 : Int32)), (0, .ref 0), (1, .int p2)]) (st' := [.ref 0, .ref 1]) rfl ?_
  refine jv_Ev.m jv_i188 (pc' := 15) (st' := [.int (4 : Int32), .ref 1]) rfl rfl (jv_m_getI rfl rfl rfl rfl) ?_
  refine jv_Ev.steps jv_i188 4 (pc' := 19) (l' := [(2, .int (24 : Int32)), (0, .ref 0), (1, .int p2)]) (st' := [.int (p2 >>> ((24 : Int32) &&& 31)).toInt8.toInt32, .int (4 : Int32), .ref 1]) rfl ?_
  refine jv_Ev.m jv_i188 (pc' := 20) (st' := []) rfl rfl (jv_m_bast rfl (by decide)) ?_
  refine jv_Ev.steps jv_i188 2 (pc' := 22) (l' := [(2, .int (24 : Int32)), (0, .ref 0), (1, .int p2)]) (st' := [.ref 0, .ref 0]) rfl ?_
  refine jv_Ev.m jv_i188 (pc' := 25) (st' := [.int (4 : Int32), .ref 0]) rfl rfl (jv_m_getI rfl rfl rfl rfl) ?_
  refine jv_Ev.steps jv_i188 2 (pc' := 27) (l' := [(2, .int (24 : Int32)), (0, .ref 0), (1, .int p2)]) (st' := [.int (5 : Int32), .ref 0]) rfl ?_
  refine jv_Ev.m jv_i188 (pc' := 30) (st' := []) rfl rfl (jv_m_putI rfl rfl rfl rfl rfl) ?_
  refine jv_Ev.steps jv_i188 3 (pc' := 4) (l' := [(2, .int (16 : Int32)), (0, .ref 0), (1, .int p2)]) (st' := [.int (16 : Int32)]) rfl ?_
  refine jv_Ev.br jv_i188 (pc' := 7) (st' := []) rfl (jv_bi_lt.trans (jx_gof (by decide))) ?_
  refine jv_Ev.steps jv_i188 1 (pc' := 8) (l' := [(2, .int (16 : Int32)), (0, .ref 0), (1, .int p2)]) (st' := [.ref 0]) rfl ?_
  refine jv_Ev.m jv_i188 (pc' := 11) (st' := [.ref 1]) rfl rfl (jv_m_getR rfl rfl rfl rfl) ?_
  refine jv_Ev.steps jv_i188 1 (pc' := 12) (l' := [(2, .int (16 : Int32)), (0, .ref 0), (1, .int p2)]) (st' := [.ref 0, .ref 1]) rfl ?_
  refine jv_Ev.m jv_i188 (pc' := 15) (st' := [.int (5 : Int32), .ref 1]) rfl rfl (jv_m_getI rfl rfl rfl rfl) ?_
  refine jv_Ev.steps jv_i188 4 (pc' := 19) (l' := [(2, .int (16 : Int32)), (0, .ref 0), (1, .int p2)]) (st' := [.int (p2 >>> ((16 : Int32) &&& 31)).toInt8.toInt32, .int (5 : Int32), .ref 1]) rfl ?_
  refine jv_Ev.m jv_i188 (pc' := 20) (st' := []) rfl rfl (jv_m_bast rfl (by decide)) ?_
  refine jv_Ev.steps jv_i188 2 (pc' := 22) (l' := [(2, .int (16 : Int32)), (0, .ref 0), (1, .int p2)]) (st' := [.ref 0, .ref 0]) rfl ?_
  refine jv_Ev.m jv_i188 (pc' := 25) (st' := [.int (5 : Int32), .ref 0]) rfl rfl (jv_m_getI rfl rfl rfl rfl) ?_
  refine jv_Ev.steps jv_i188 2 (pc' := 27) (l' := [(2, .int (16 : Int32)), (0, .ref 0), (1, .int p2)]) (st' := [.int (6 : Int32), .ref 0]) rfl ?_
  refine jv_Ev.m jv_i188 (pc' := 30) (st' := []) rfl rfl (jv_m_putI rfl rfl rfl rfl rfl) ?_
  refine jv_Ev.steps jv_i188 3 (pc' := 4) (l' := [(2, .int (8 : Int32)), (0, .ref 0), (1, .int p2)]) (st' := [.int (8 : Int32)]) rfl ?_
  refine jv_Ev.br jv_i188 (pc' := 7) (st' := []) rfl (jv_bi_lt.trans (jx_gof (by decide))) ?_
  refine jv_Ev.steps jv_i188 1 (pc' := 8) (l' := [(2, .int (8 : Int32)), (0, .ref 0), (1, .int p2)]) (st' := [.ref 0]) rfl ?_
  refine jv_Ev.m jv_i188 (pc' := 11) (st' := [.ref 1]) rfl rfl (jv_m_getR rfl rfl rfl rfl) ?_
  refine jv_Ev.steps jv_i188 1 (pc' := 12) (l' := [(2, .int (8 : Int32)), (0, .ref 0), (1, .int p2)]) (st' := [.ref 0, .ref 1]) rfl ?_
  refine jv_Ev.m jv_i188 (pc' := 15) (st' := [.int (6 : Int32), .ref 1]) rfl rfl (jv_m_getI rfl rfl rfl rfl) ?_
  refine jv_Ev.steps jv_i188 4 (pc' := 19) (l' := [(2, .int (8 : Int32)), (0, .ref 0), (1, .int p2)]) (st' := [.int (p2 >>> ((8 : Int32) &&& 31)).toInt8.toInt32, .int (6 : Int32), .ref 1]) rfl ?_
  refine jv_Ev.m jv_i188 (pc' := 20) (st' := []) rfl rfl (jv_m_bast rfl (by decide)) ?_
  refine jv_Ev.steps jv_i188 2 (pc' := 22) (l' := [(2, .int (8 : Int32)), (0, .ref 0), (1, .int p2)]) (st' := [.ref 0, .ref 0]) rfl ?_
  refine jv_Ev.m jv_i188 (pc' := 25) (st' := [.int (6 : Int32), .ref 0]) rfl rfl (jv_m_getI rfl rfl rfl rfl) ?_
  refine jv_Ev.steps jv_i188 2 (pc' := 27) (l' := [(2, .int (8 : Int32)), (0, .ref 0), (1, .int p2)]) (st' := [.int (7 : Int32), .ref 0]) rfl ?_
  refine jv_Ev.m jv_i188 (pc' := 30) (st' := []) rfl rfl (jv_m_putI rfl rfl rfl rfl rfl) ?_
  refine jv_Ev.steps jv_i188 3 (pc' := 4) (l' := [(2, .int (0 : Int32)), (0, .ref 0), (1, .int p2)]) (st' := [.int (0 : Int32)]) rfl ?_
  refine jv_Ev.br jv_i188 (pc' := 7) (st' := []) rfl (jv_bi_lt.trans (jx_gof (by decide))) ?_
  refine jv_Ev.steps jv_i188 1 (pc' := 8) (l' := [(2, .int (0 : Int32)), (0, .ref 0), (1, .int p2)]) (st' := [.ref 0]) rfl ?_
  refine jv_Ev.m jv_i188 (pc' := 11) (st' := [.ref 1]) rfl rfl (jv_m_getR rfl rfl rfl rfl) ?_
  refine jv_Ev.steps jv_i188 1 (pc' := 12) (l' := [(2, .int (0 : Int32)), (0, .ref 0), (1, .int p2)]) (st' := [.ref 0, .ref 1]) rfl ?_
  refine jv_Ev.m jv_i188 (pc' := 15) (st' := [.int (7 : Int32), .ref 1]) rfl rfl (jv_m_getI rfl rfl rfl rfl) ?_
  refine jv_Ev.steps jv_i188 4 (pc' := 19) (l' := [(2, .int (0 : Int32)), (0, .ref 0), (1, .int p2)]) (st' := [.int (p2 >>> ((0 : Int32) &&& 31)).toInt8.toInt32, .int (7 : Int32), .ref 1]) rfl ?_
  refine jv_Ev.m jv_i188 (pc' := 20) (st' := []) rfl rfl (jv_m_bast rfl (by decide)) ?_
  refine jv_Ev.steps jv_i188 2 (pc' := 22) (l' := [(2, .int (0 : Int32)), (0, .ref 0), (1, .int p2)]) (st' := [.ref 0, .ref 0]) rfl ?_
  refine jv_Ev.m jv_i188 (pc' := 25) (st' := [.int (7 : Int32), .ref 0]) rfl rfl (jv_m_getI rfl rfl rfl rfl) ?_
  refine jv_Ev.steps jv_i188 2 (pc' := 27) (l' := [(2, .int (0 : Int32)), (0, .ref 0), (1, .int p2)]) (st' := [.int (8 : Int32), .ref 0]) rfl ?_
  refine jv_Ev.m jv_i188 (pc' := 30) (st' := []) rfl rfl (jv_m_putI rfl rfl rfl rfl rfl) ?_
  refine jv_Ev.steps jv_i188 3 (pc' := 4) (l' := [(2, .int (-8 : Int32)), (0, .ref 0), (1, .int p2)]) (st' := [.int (-8 : Int32)]) rfl ?_
  refine jv_Ev.br jv_i188 (pc' := 36) (st' := []) rfl (jv_bi_lt.trans (jx_got (by decide))) ?_
  exact jv_Ev.ret jv_i188 rfl rfl

set_option maxRecDepth 100000 in
/-- ProgramBox.type -/
theorem jx_e3 (p0 : Int32) (p1 : Int32) (p2 : Int32) (p3 : Int32) (p4 : Int32) (p5 : Int32)  : jv_Ms 188 [.ref 0, .int p3] (jv_H (jx_K 227) (jv_u (jv_u (jv_u (jv_u (jv_u (jv_u (jv_u (jv_u (jv_u (jv_u (jv_u (jv_u (jv_u (jv_u (jv_u (jv_u jx_If 1 (0 : Int32).toNatClampNeg (p1 >>> ((24 : Int32) &&& 31)).toInt8.toInt32.toInt8.toInt32) 0 1 (1 : Int32)) 1 (1 : Int32).toNatClampNeg (p1 >>> ((16 : Int32) &&& 31)).toInt8.toInt32.toInt8.toInt32) 0 1 (2 : Int32)) 1 (2 : Int32).toNatClampNeg (p1 >>> ((8 : Int32) &&& 31)).toInt8.toInt32.toInt8.toInt32) 0 1 (3 : Int32)) 1 (3 : Int32).toNatClampNeg (p1 >>> ((0 : Int32) &&& 31)).toInt8.toInt32.toInt8.toInt32) 0 1 (4 : Int32)) 1 (4 : Int32).toNatClampNeg (p2 >>> ((24 : Int32) &&& 31)).toInt8.toInt32.toInt8.toInt32) 0 1 (5 : Int32)) 1 (5 : Int32).toNatClampNeg (p2 >>> ((16 : Int32) &&& 31)).toInt8.toInt32.toInt8.toInt32) 0 1 (6 : Int32)) 1 (6 : Int32).toNatClampNeg (p2 >>> ((8 : Int32) &&& 31)).toInt8.toInt32.toInt8.toInt32) 0 1 (7 : Int32)) 1 (7 : Int32).toNatClampNeg (p2 >>> ((0 : Int32) &&& 31)).toInt8.toInt32.toInt8.toInt32) 0 1 (8 : Int32)) jx_L0 (jx_R 227)) 227 1572950 (none, (jv_H (jx_K 227) (jv_u (jv_u (jv_u (jv_u (jv_u (jv_u (jv_u (jv_u (jv_u (jv_u (jv_u (jv_u (jv_u (jv_u (jv_u (jv_u (jv_u (jv_u (jv_u (jv_u (jv_u (jv_u (jv_u (jv_u jx_If 1 (0 : Int32).toNatClampNeg (p1 >>> ((24 : Int32) &&& 31)).toInt8.toInt32.toInt8.toInt32) 0 1 (1 : Int32)) 1 (1 : Int32).toNatClampNeg (p1 >>> ((16 : Int32) &&& 31)).toInt8.toInt32.toInt8.toInt32) 0 1 (2 : Int32)) 1 (2 : Int32).toNatClampNeg (p1 >>> ((8 : Int32) &&& 31)).toInt8.toInt32.toInt8.toInt32) 0 1 (3 : Int32)) 1 (3 : Int32).toNatClampNeg (p1 >>> ((0 : Int32) &&& 31)).toInt8.toInt32.toInt8.toInt32) 0 1 (4 : Int32)) 1 (4 : Int32).toNatClampNeg (p2 >>> ((24 : Int32) &&& 31)).toInt8.toInt32.toInt8.toInt32) 0 1 (5 : Int32)) 1 (5 : Int32).toNatClampNeg (p2 >>> ((16 : Int32) &&& 31)).toInt8.toInt32.toInt8.toInt32) 0 1 (6 : Int32)) 1 (6 : Int32).toNatClampNeg (p2 >>> ((8 : Int32) &&& 31)).toInt8.toInt32.toInt8.toInt32) 0 1 (7 : Int32)) 1 (7 : Int32).toNatClampNeg (p2 >>> ((0 : Int32) &&& 31)).toInt8.toInt32.toInt8.toInt32) 0 1 (8 : Int32)) 1 (8 : Int32).toNatClampNeg (p3 >>> ((24 : Int32) &&& 31)).toInt8.toInt32.toInt8.toInt32) 0 1 (9 : Int32)) 1 (9 : Int32).toNatClampNeg (p3 >>> ((16 : Int32) &&& 31)).toInt8.toInt32.toInt8.toInt32) 0 1 (10 : Int32)) 1 (10 : Int32).toNatClampNeg (p3 >>> ((8 : Int32) &&& 31)).toInt8.toInt32.toInt8.toInt32) 0 1 (11 : Int32)) 1 (11 : Int32).toNatClampNeg (p3 >>> ((0 : Int32) &&& 31)).toInt8.toInt32.toInt8.toInt32) 0 1 (12 : Int32)) jx_L0 (jx_R 227)), 227, 1572950) := by
  show jv_Ev 188 0 [(0, .ref 0), (1, .int p3)] [] (jv_H (jx_K 227) (jv_u (jv_u (jv_u (jv_u (jv_u (jv_u (jv_u (jv_u (jv_u (jv_u (jv_u (jv_u (jv_u (jv_u (jv_u (jv_u jx_If 1 (0 : Int32).toNatClampNeg (p1 >>> ((24 : Int32) &&& 31)).toInt8.toInt32.toInt8.toInt32) 0 1 (1 : Int32)) 1 (1 : Int32).toNatClampNeg (p1 >>> ((16 : Int32) &&& 31)).toInt8.toInt32.toInt8.toInt32) 0 1 (2 : Int32)) 1 (2 : Int32).toNatClampNeg (p1 >>> ((8 : Int32) &&& 31)).toInt8.toInt32.toInt8.toInt32) 0 1 (3 : Int32)) 1 (3 : Int32).toNatClampNeg (p1 >>> ((0 : Int32) &&& 31)).toInt8.toInt32.toInt8.toInt32) 0 1 (4 : Int32)) 1 (4 : Int32).toNatClampNeg (p2 >>> ((24 : Int32) &&& 31)).toInt8.toInt32.toInt8.toInt32) 0 1 (5 : Int32)) 1 (5 : Int32).toNatClampNeg (p2 >>> ((16 : Int32) &&& 31)).toInt8.toInt32.toInt8.toInt32) 0 1 (6 : Int32)) 1 (6 : Int32).toNatClampNeg (p2 >>> ((8 : Int32) &&& 31)).toInt8.toInt32.toInt8.toInt32) 0 1 (7 : Int32)) 1 (7 : Int32).toNatClampNeg (p2 >>> ((0 : Int32) &&& 31)).toInt8.toInt32.toInt8.toInt32) 0 1 (8 : Int32)) jx_L0 (jx_R 227)) 227 1572950 _
  refine jv_Ev.steps jv_i188 3 (pc' := 4) (l' := [(2, .int (24 : Int32)), (0, .ref 0), (1, .int p3)]) (st' := [.int (24 : Int32)]) rfl ?_
  refine jv_Ev.br jv_i188 (pc' := 7) (st' := []) rfl (jv_bi_lt.trans (jx_gof (by decide))) ?_
  refine jv_Ev.steps jv_i188 1 (pc' := 8) (l' := [(2, .int (24 : Int32)), (0, .ref 0), (1, .int p3)]) (st' := [.ref 0]) rfl ?_
  refine jv_Ev.m jv_i188 (pc' := 11) (st' := [.ref 1]) rfl rfl (jv_m_getR rfl rfl rfl rfl) ?_
  refine jv_Ev.steps jv_i188 1 (pc' := 12) (l' := [(2, .int (24 : Int32)), (0, .ref 0), (1, .int p3)]) (st' := [.ref 0, .ref 1]) rfl ?_
  refine jv_Ev.m jv_i188 (pc' := 15) (st' := [.int (8 : Int32), .ref 1]) rfl rfl (jv_m_getI rfl rfl rfl rfl) ?_
  refine jv_Ev.steps jv_i188 4 (pc' := 19) (l' := [(2, .int (24 : Int32)), (0, .ref 0), (1, .int p3)]) (st' := [.int (p3 >>> ((24 : Int32) &&& 31)).toInt8.toInt32, .int (8 : Int32), .ref 1]) rfl ?_
  refine jv_Ev.m jv_i188 (pc' := 20) (st' := []) rfl rfl (jv_m_bast rfl (by decide)) ?_
  refine jv_Ev.steps jv_i188 2 (pc' := 22) (l' := [(2, .int (24 : Int32)), (0, .ref 0), (1, .int p3)]) (st' := [.ref 0, .ref 0]) rfl ?_
  refine jv_Ev.m jv_i188 (pc' := 25) (st' := [.int (8 : Int32), .ref 0]) rfl rfl (jv_m_getI rfl rfl rfl rfl) ?_
  refine jv_Ev.steps jv_i188 2 (pc' := 27) (l' := [(2, .int (24 : Int32)), (0, .ref 0), (1, .int p3)]) (st' := [.int (9 : Int32), .ref 0]) rfl ?_
  refine jv_Ev.m jv_i188 (pc' := 30) (st' := []) rfl rfl (jv_m_putI rfl rfl rfl rfl rfl) ?_
  refine jv_Ev.steps jv_i188 3 (pc' := 4) (l' := [(2, .int (16 : Int32)), (0, .ref 0), (1, .int p3)]) (st' := [.int (16 : Int32)]) rfl ?_
  refine jv_Ev.br jv_i188 (pc' := 7) (st' := []) rfl (jv_bi_lt.trans (jx_gof (by decide))) ?_
  refine jv_Ev.steps jv_i188 1 (pc' := 8) (l' := [(2, .int (16 : Int32)), (0, .ref 0), (1, .int p3)]) (st' := [.ref 0]) rfl ?_
  refine jv_Ev.m jv_i188 (pc' := 11) (st' := [.ref 1]) rfl rfl (jv_m_getR rfl rfl rfl rfl) ?_
  refine jv_Ev.steps jv_i188 1 (pc' := 12) (l' := [(2, .int (16 : Int32)), (0, .ref 0), (1, .int p3)]) (st' := [.ref 0, .ref 1]) rfl ?_
  refine jv_Ev.m jv_i188 (pc' := 15) (st' := [.int (9 : Int32), .ref 1]) rfl rfl (jv_m_getI rfl rfl rfl rfl) ?_
  refine jv_Ev.steps jv_i188 4 (pc' := 19) (l' := [(2, .int (16 : Int32)), (0, .ref 0), (1, .int p3)]) (st' := [.int (p3 >>> ((16 : Int32) &&& 31)).toInt8.toInt32, .int (9 : Int32), .ref 1]) rfl ?_
  refine jv_Ev.m jv_i188 (pc' := 20) (st' := []) rfl rfl (jv_m_bast rfl (by decide)) ?_
  refine jv_Ev.steps jv_i188 2 (pc' := 22) (l' := [(2, .int (16 : Int32)), (0, .ref 0), (1, .int p3)]) (st' := [.ref 0, .ref 0]) rfl ?_
  refine jv_Ev.m jv_i188 (pc' := 25) (st' := [.int (9 : Int32), .ref 0]) rfl rfl (jv_m_getI rfl rfl rfl rfl) ?_
  refine jv_Ev.steps jv_i188 2 (pc' := 27) (l' := [(2, .int (16 : Int32)), (0, .ref 0), (1, .int p3)]) (st' := [.int (10 : Int32), .ref 0]) rfl ?_
  refine jv_Ev.m jv_i188 (pc' := 30) (st' := []) rfl rfl (jv_m_putI rfl rfl rfl rfl rfl) ?_
  refine jv_Ev.steps jv_i188 3 (pc' := 4) (l' := [(2, .int (8 : Int32)), (0, .ref 0), (1, .int p3)]) (st' := [.int (8 : Int32)]) rfl ?_
  refine jv_Ev.br jv_i188 (pc' := 7) (st' := []) rfl (jv_bi_lt.trans (jx_gof (by decide))) ?_
  refine jv_Ev.steps jv_i188 1 (pc' := 8) (l' := [(2, .int (8 : Int32)), (0, .ref 0), (1, .int p3)]) (st' := [.ref 0]) rfl ?_
  refine jv_Ev.m jv_i188 (pc' := 11) (st' := [.ref 1]) rfl rfl (jv_m_getR rfl rfl rfl rfl) ?_
  refine jv_Ev.steps jv_i188 1 (pc' := 12) (l' := [(2, .int (8 : Int32)), (0, .ref 0), (1, .int p3)]) (st' := [.ref 0, .ref 1]) rfl ?_
  refine jv_Ev.m jv_i188 (pc' := 15) (st' := [.int (10 : Int32), .ref 1]) rfl rfl (jv_m_getI rfl rfl rfl rfl) ?_
  refine jv_Ev.steps jv_i188 4 (pc' := 19) (l' := [(2, .int (8 : Int32)), (0, .ref 0), (1, .int p3)]) (st' := [.int (p3 >>> ((8 : Int32) &&& 31)).toInt8.toInt32, .int (10 : Int32), .ref 1]) rfl ?_
  refine jv_Ev.m jv_i188 (pc' := 20) (st' := []) rfl rfl (jv_m_bast rfl (by decide)) ?_
  refine jv_Ev.steps jv_i188 2 (pc' := 22) (l' := [(2, .int (8 : Int32)), (0, .ref 0), (1, .int p3)]) (st' := [.ref 0, .ref 0]) rfl ?_
  refine jv_Ev.m jv_i188 (pc' := 25) (st' := [.int (10 : Int32), .ref 0]) rfl rfl (jv_m_getI rfl rfl rfl rfl) ?_
  refine jv_Ev.steps jv_i188 2 (pc' := 27) (l' := [(2, .int (8 : Int32)), (0, .ref 0), (1, .int p3)]) (st' := [.int (11 : Int32), .ref 0]) rfl ?_
  refine jv_Ev.m jv_i188 (pc' := 30) (st' := []) rfl rfl (jv_m_putI rfl rfl rfl rfl rfl) ?_
  refine jv_Ev.steps jv_i188 3 (pc' := 4) (l' := [(2, .int (0 : Int32)), (0, .ref 0), (1, .int p3)]) (st' := [.int (0 : Int32)]) rfl ?_
  refine jv_Ev.br jv_i188 (pc' := 7) (st' := []) rfl (jv_bi_lt.trans (jx_gof (by decide))) ?_
  refine jv_Ev.steps jv_i188 1 (pc' := 8) (l' := [(2, .int (0 : Int32)), (0, .ref 0), (1, .int p3)]) (st' := [.ref 0]) rfl ?_
  refine jv_Ev.m jv_i188 (pc' := 11) (st' := [.ref 1]) rfl rfl (jv_m_getR rfl rfl rfl rfl) ?_
  refine jv_Ev.steps jv_i188 1 (pc' := 12) (l' := [(2, .int (0 : Int32)), (0, .ref 0), (1, .int p3)]) (st' := [.ref 0, .ref 1]) rfl ?_
  refine jv_Ev.m jv_i188 (pc' := 15) (st' := [.int (11 : Int32), .ref 1]) rfl rfl (jv_m_getI rfl rfl rfl rfl) ?_
  refine jv_Ev.steps jv_i188 4 (pc' := 19) (l' := [(2, .int (0 : Int32)), (0, .ref 0), (1, .int p3)]) (st' := [.int (p3 >>> ((0 : Int32) &&& 31)).toInt8.toInt32, .int (11 : Int32), .ref 1]) rfl ?_
  refine jv_Ev.m jv_i188 (pc' := 20) (st' := []) rfl rfl (jv_m_bast rfl (by decide)) ?_
  refine jv_Ev.steps jv_i188 2 (pc' := 22) (l' := [(2, .int (0 : Int32)), (0, .ref 0), (1, .int p3)]) (st' := [.ref 0, .ref 0]) rfl ?_
  refine jv_Ev.m jv_i188 (pc' := 25) (st' := [.int (11 : Int32), .ref 0]) rfl rfl (jv_m_getI rfl rfl rfl rfl) ?_
  refine jv_Ev.steps jv_i188 2 (pc' := 27) (l' := [(2, .int (0 : Int32)), (0, .ref 0), (1, .int p3)]) (st' := [.int (12 : Int32), .ref 0]) rfl ?_
  refine jv_Ev.m jv_i188 (pc' := 30) (st' := []) rfl rfl (jv_m_putI rfl rfl rfl rfl rfl) ?_
  refine jv_Ev.steps jv_i188 3 (pc' := 4) (l' := [(2, .int (-8 : Int32)), (0, .ref 0), (1, .int p3)]) (st' := [.int (-8 : Int32)]) rfl ?_
  refine jv_Ev.br jv_i188 (pc' := 36) (st' := []) rfl (jv_bi_lt.trans (jx_got (by decide))) ?_
  exact jv_Ev.ret jv_i188 rfl rfl

set_option maxRecDepth 100000 in
/-- ProgramBox.type -/
theorem jx_e4 (p0 : Int32) (p1 : Int32) (p2 : Int32) (p3 : Int32) (p4 : Int32) (p5 : Int32)  : jv_Ms 188 [.ref 0, .int p4] (jv_H (jx_K 227) (jv_u (jv_u (jv_u (jv_u (jv_u (jv_u (jv_u (jv_u (jv_u (jv_u (jv_u (jv_u (jv_u (jv_u (jv_u (jv_u (jv_u (jv_u (jv_u (jv_u (jv_u (jv_u (jv_u (jv_u jx_If 1 (0 : Int32).toNatClampNeg (p1 >>> ((24 : Int32) &&& 31)).toInt8.toInt32.toInt8.toInt32) 0 1 (1 : Int32)) 1 (1 : Int32).toNatClampNeg (p1 >>> ((16 : Int32) &&& 31)).toInt8.toInt32.toInt8.toInt32) 0 1 (2 : Int32)) 1 (2 : Int32).toNatClampNeg (p1 >>> ((8 : Int32) &&& 31)).toInt8.toInt32.toInt8.toInt32) 0 1 (3 : Int32)) 1 (3 : Int32).toNatClampNeg (p1 >>> ((0 : Int32) &&& 31)).toInt8.toInt32.toInt8.toInt32) 0 1 (4 : Int32)) 1 (4 : Int32).toNatClampNeg (p2 >>> ((24 : Int32) &&& 31)).toInt8.toInt32.toInt8.toInt32) 0 1 (5 : Int32)) 1 (5 : Int32).toNatClampNeg (p2 >>> ((16 : Int32) &&& 31)).toInt8.toInt32.toInt8.toInt32) 0 1 (6 : Int32)) 1 (6 : Int32).toNatClampNeg (p2 >>> ((8 : Int32) &&& 31)).toInt8.toInt32.toInt8.toInt32) 0 1 (7 : Int32)) 1 (7 : Int32).toNatClampNeg (p2 >>> ((0 : Int32) &&& 31)).toInt8.toInt32.toInt8.toInt32) 0 1 (8 : Int32)) 1 (8 : Int32).toNatClampNeg (p3 >>> ((24 : Int32) &&& 31)).toInt8.toInt32.toInt8.toInt32) 0 1 (9 : Int32)) 1 (9 : Int32).toNatClampNeg (p3 >>> ((16 : Int32) &&& 31)).toInt8.toInt32.toInt8.toInt32) 0 1 (10 : Int32)) 1 (10 : Int32).toNatClampNeg (p3 >>> ((8 : Int32) &&& 31)).toInt8.toInt32.toInt8.toInt32) 0 1 (11 : Int32)) 1 (11 : Int32).toNatClampNeg (p3 >>> ((0 : Int32) &&& 31)).toInt8.toInt32.toInt8.toInt32) 0 1 (12 : Int32)) jx_L0 (jx_R 227)) 227 1572950 (none, (jv_H (jx_K 227) (jv_u (jv_u (jv_u (jv_u (jv_u (jv_u (jv_u (jv_u (jv_u (jv_u (jv_u (jv_u (jv_u (jv_u (jv_u (jv_u (jv_u (jv_u (jv_u (jv_u (jv_u (jv_u (jv_u (jv_u (jv_u (jv_u (jv_u (jv_u (jv_u (jv_u (jv_u (jv_u jx_If 1 (0 : Int32).toNatClampNeg (p1 >>> ((24 : Int32) &&& 31)).toInt8.toInt32.toInt8.toInt32) 0 1 (1 : Int32)) 1 (1 : Int32).toNatClampNeg (p1 >>> ((16 : Int32) &&& 31)).toInt8.toInt32.toInt8.toInt32) 0 1 (2 : Int32)) 1 (2 : Int32).toNatClampNeg (p1 >>> ((8 : Int32) &&& 31)).toInt8.toInt32.toInt8.toInt32) 0 1 (3 : Int32)) 1 (3 : Int32).toNatClampNeg (p1 >>> ((0 : Int32) &&& 31)).toInt8.toInt32.toInt8.toInt32) 0 1 (4 : Int32)) 1 (4 : Int32).toNatClampNeg (p2 >>> ((24 : Int32) &&& 31)).toInt8.toInt32.toInt8.toInt32) 0 1 (5 : Int32)) 1 (5 : Int32).toNatClampNeg (p2 >>> ((16 : Int32) &&& 31)).toInt8.toInt32.toInt8.toInt32) 0 1 (6 : Int32)) 1 (6 : Int32).toNatClampNeg (p2 >>> ((8 : Int32) &&& 31)).toInt8.toInt32.toInt8.toInt32) 0 1 (7 : Int32)) 1 (7 : Int32).toNatClampNeg (p2 >>> ((0 : Int32) &&& 31)).toInt8.toInt32.toInt8.toInt32) 0 1 (8 : Int32)) 1 (8 : Int32).toNatClampNeg (p3 >>> ((24 : Int32) &&& 31)).toInt8.toInt32.toInt8.toInt32) 0 1 (9 : Int32)) 1 (9 : Int32).toNatClampNeg (p3 >>> ((16 : Int32) &&& 31)).toInt8.toInt32.toInt8.toInt32) 0 1 (10 : Int32)) 1 (10 : Int32).toNatClampNeg (p3 >>> ((8 : Int32) &&& 31)).toInt8.toInt32.toInt8.toInt32) 0 1 (11 : Int32)) 1 (11 : Int32).toNatClampNeg (p3 >>> ((0 : Int32) &&& 31)).toInt8.toInt32.toInt8.toInt32) 0 1 (12 : Int32)) 1 (12 : Int32).toNatClampNeg (p4 >>> ((24 : Int32) &&& 31)).toInt8.toInt32.toInt8.toInt32) 0 1 (13 : Int32)) 1 (13 : Int32).toNatClampNeg (p4 >>> ((16 : Int32) &&& 31)).toInt8.toInt32.toInt8.toInt32) 0 1 (14 : Int32)) 1 (14 : Int32).toNatClampNeg (p4 >>> ((8 : Int32) &&& 31)).toInt8.toInt32.toInt8.toInt32) 0 1 (15 : Int32)) 1 (15 : Int32).toNatClampNeg (p4 >>> ((0 : Int32) &&& 31)).toInt8.toInt32.toInt8.toInt32) 0 1 (16 : Int32)) jx_L0 (jx_R 227)), 227, 1572950) := by
  show jv_Ev 188 0 [(0, .ref 0), (1, .int p4)] [] (jv_H (jx_K 227) (jv_u (jv_u (jv_u (jv_u (jv_u (jv_u (jv_u (jv_u (jv_u (jv_u (jv_u (jv_u (jv_u (jv_u (jv_u (jv_u (jv_u (jv_u (jv_u (jv_u (jv_u (jv_u (jv_u (jv_u jx_If 1 (0 : Int32).toNatClampNeg (p1 >>> ((24 : Int32) &&& 31)).toInt8.toInt32.toInt8.toInt32) 0 1 (1 : Int32)) 1 (1 : Int32).toNatClampNeg (p1 >>> ((16 : Int32) &&& 31)).toInt8.toInt32.toInt8.toInt32) 0 1 (2 : Int32)) 1 (2 : Int32).toNatClampNeg (p1 >>> ((8 : Int32) &&& 31)).toInt8.toInt32.toInt8.toInt32) 0 1 (3 : Int32)) 1 (3 : Int32).toNatClampNeg (p1 >>> ((0 : Int32) &&& 31)).toInt8.toInt32.toInt8.toInt32) 0 1 (4 : Int32)) 1 (4 : Int32).toNatClampNeg (p2 >>> ((24 : Int32) &&& 31)).toInt8.toInt32.toInt8.toInt32) 0 1 (5 : Int32)) 1 (5 : Int32).toNatClampNeg (p2 >>> ((16 : Int32) &&& 31)).toInt8.toInt32.toInt8.toInt32) 0 1 (6 : Int32)) 1 (6 : Int32).toNatClampNeg (p2 >>> ((8 : Int32) &&& 31)).toInt8.toInt32.toInt8.toInt32) 0 1 (7 : Int32)) 1 (7 : Int32).toNatClampNeg (p2 >>> ((0 : Int32) &&& 31)).toInt8.toInt32.toInt8.toInt32) 0 1 (8 : Int32)) 1 (8 : Int32).toNatClampNeg (p3 >>> ((24 : Int32) &&& 31)).toInt8.toInt32.toInt8.toInt32) 0 1 (9 : Int32)) 1 (9 : Int32).toNatClampNeg (p3 >>> ((16 : Int32) &&& 31)).toInt8.toInt32.toInt8.toInt32) 0 1 (10 : Int32)) 1 (10 : Int32).toNatClampNeg (p3 >>> ((8 : Int32) &&& 31)).toInt8.toInt32.toInt8.toInt32) 0 1 (11 : Int32)) 1 (11 : Int32).toNatClampNeg (p3 >>> ((0 : Int32) &&& 31)).toInt8.toInt32.toInt8.toInt32) 0 1 (12 : Int32)) jx_L0 (jx_R 227)) 227 1572950 _
  refine jv_Ev.steps jv_i188 3 (pc' := 4) (l' := [(2, .int (24 : Int32)), (0, .ref 0), (1, .int p4)]) (st' := [.int (24 : Int32)]) rfl ?_
  refine jv_Ev.br jv_i188 (pc' := 7) (st' := []) rfl (jv_bi_lt.trans (jx_gof (by decide))) ?_
  refine jv_Ev.steps jv_i188 1 (pc' := 8) (l' := [(2, .int (24 : Int32)), (0, .ref 0), (1, .int p4)]) (st' := [.ref 0]) rfl ?_
  refine jv_Ev.m jv_i188 (pc' := 11) (st' := [.ref 1]) rfl rfl (jv_m_getR rfl rfl rfl rfl) ?_
  refine jv_Ev.steps jv_i188 1 (pc' := 12) (l' := [(2, .int (24 : Int32)), (0, .ref 0), (1, .int p4)]) (st' := [.ref 0, .ref 1]) rfl ?_
  refine jv_Ev.m jv_i188 (pc' := 15) (st' := [.int (12 : Int32), .ref 1]) rfl rfl (jv_m_getI rfl rfl rfl rfl) ?_
  refine jv_Ev.steps jv_i188 4 (pc' := 19) (l' := [(2, .int (24 : Int32)), (0, .ref 0), (1, .int p4)]) (st' := [.int (p4 >>> ((24 : Int32) &&& 31)).toInt8.toInt32, .int (12 : Int32), .ref 1]) rfl ?_
  refine jv_Ev.m jv_i188 (pc' := 20) (st' := []) rfl rfl (jv_m_bast rfl (by decide)) ?_
  refine jv_Ev.steps jv_i188 2 (pc' := 22) (l' := [(2, .int (24 : Int32)), (0, .ref 0), (1, .int p4)]) (st' := [.ref 0, .ref 0]) rfl ?_
  refine jv_Ev.m jv_i188 (pc' := 25) (st' := [.int (12 : Int32), .ref 0]) rfl rfl (jv_m_getI rfl rfl rfl rfl) ?_
  refine jv_Ev.steps jv_i188 2 (pc' := 27) (l' := [(2, .int (24 : Int32)), (0, .ref 0), (1, .int p4)]) (st' := [.int (13 : Int32), .ref 0]) rfl ?_
  refine jv_Ev.m jv_i188 (pc' := 30) (st' := []) rfl rfl (jv_m_putI rfl rfl rfl rfl rfl) ?_
  refine jv_Ev.steps jv_i188 3 (pc' := 4) (l' := [(2, .int (16 : Int32)), (0, .ref 0), (1, .int p4)]) (st' := [.int (16 : Int32)]) rfl ?_
  refine jv_Ev.br jv_i188 (pc' := 7) (st' := []) rfl (jv_bi_lt.trans (jx_gof (by decide))) ?_
  refine jv_Ev.steps jv_i188 1 (pc' := 8) (l' := [(2, .int (16 : Int32)), (0, .ref 0), (1, .int p4)]) (st' := [.ref 0]) rfl ?_
  refine jv_Ev.m jv_i188 (pc' := 11) (st' := [.ref 1]) rfl rfl (jv_m_getR rfl rfl rfl rfl) ?_
  refine jv_Ev.steps jv_i188 1 (pc' := 12) (l' := [(2, .int (16 : Int32)), (0, .ref 0), (1, .int p4)]) (st' := [.ref 0, .ref 1]) rfl ?_
  refine jv_Ev.m jv_i188 (pc' := 15) (st' := [.int (13 : Int32), .ref 1]) rfl rfl (jv_m_getI rfl rfl rfl rfl) ?_
  refine jv_Ev.steps jv_i188 4 (pc' := 19) (l' := [(2, .int (16 : Int32)), (0, .ref 0), (1, .int p4)]) (st' := [.int (p4 >>> ((16 : Int32) &&& 31)).toInt8.toInt32, .int (13 : Int32), .ref 1]) rfl ?_
  refine jv_Ev.m jv_i188 (pc' := 20) (st' := []) rfl rfl (jv_m_bast rfl (by decide)) ?_
  refine jv_Ev.steps jv_i188 2 (pc' := 22) (l' := [(2, .int (16 : Int32)), (0, .ref 0), (1, .int p4)]) (st' := [.ref 0, .ref 0]) rfl ?_
  refine jv_Ev.m jv_i188 (pc' := 25) (st' := [.int (13 : Int32), .ref 0]) rfl rfl (jv_m_getI rfl rfl rfl rfl) ?_
  refine jv_Ev.steps jv_i188 2 (pc' := 27) (l' := [(2, .int (16 : Int32)), (0, .ref 0), (1, .int p4)]) (st' := [.int (14 : Int32), .ref 0]) rfl ?_
  refine jv_Ev.m jv_i188 (pc' := 30) (st' := []) rfl rfl (jv_m_putI rfl rfl rfl rfl rfl) ?_
  refine jv_Ev.steps jv_i188 3 (pc' := 4) (l' := [(2, .int (8 : Int32)), (0, .ref 0), (1, .int p4)]) (st' := [.int (8 : Int32)]) rfl ?_
  refine jv_Ev.br jv_i188 (pc' := 7) (st' := []) rfl (jv_bi_lt.trans (jx_gof (by decide))) ?_
  refine jv_Ev.steps jv_i188 1 (pc' := 8) (l' := [(2, .int (8 : Int32)), (0, .ref 0), (1, .int p4)]) (st' := [.ref 0]) rfl ?_
  refine jv_Ev.m jv_i188 (pc' := 11) (st' := [.ref 1]) rfl rfl (jv_m_getR rfl rfl rfl rfl) ?_
  refine jv_Ev.steps jv_i188 1 (pc' := 12) (l' := [(2, .int (8 : Int32)), (0, .ref 0), (1, .int p4)]) (st' := [.ref 0, .ref 1]) rfl ?_
  refine jv_Ev.m jv_i188 (pc' := 15) (st' := [.int (14 : Int32), .ref 1]) rfl rfl (jv_m_getI rfl rfl rfl rfl) ?_
  refine jv_Ev.steps jv_i188 4 (pc' := 19) (l' := [(2, .int (8 : Int32)), (0, .ref 0), (1, .int p4)]) (st' := [.int (p4 >>> ((8 : Int32) &&& 31)).toInt8.toInt32, .int (14 : Int32), .ref 1]) rfl ?_
  refine jv_Ev.m jv_i188 (pc' := 20) (st' := []) rfl rfl (jv_m_bast rfl (by decide)) ?_
  refine jv_Ev.steps jv_i188 2 (pc' := 22) (l' := [(2, .int (8 : Int32)), (0, .ref 0), (1, .int p4)]) (st' := [.ref 0, .ref 0]) rfl ?_
  refine jv_Ev.m jv_i188 (pc' := 25) (st' := [.int (14 : Int32), .ref 0]) rfl rfl (jv_m_getI rfl rfl rfl rfl) ?_
  refine jv_Ev.steps jv_i188 2 (pc' := 27) (l' := [(2, .int (8 : Int32)), (0, .ref 0), (1, .int p4)]) (st' := [.int (15 : Int32), .ref 0]) rfl ?_
  refine jv_Ev.m jv_i188 (pc' := 30) (st' := []) rfl rfl (jv_m_putI rfl rfl rfl rfl rfl) ?_
  refine jv_Ev.steps jv_i188 3 (pc' := 4) (l' := [(2, .int (0 : Int32)), (0, .ref 0), (1, .int p4)]) (st' := [.int (0 : Int32)]) rfl ?_
  refine jv_Ev.br jv_i188 (pc' := 7) (st' := []) rfl (jv_bi_lt.trans (jx_gof (by decide))) ?_
  refine jv_Ev.steps jv_i188 1 (pc' := 8) (l' := [(2, .int (0 : Int32)), (0, .ref 0), (1, .int p4)]) (st' := [.ref 0]) rfl ?_
  refine jv_Ev.m jv_i188 (pc' := 11) (st' := [.ref 1]) rfl rfl (jv_m_getR rfl rfl rfl rfl) ?_
  refine jv_Ev.steps jv_i188 1 (pc' := 12) (l' := [(2, .int (0 : Int32)), (0, .ref 0), (1, .int p4)]) (st' := [.ref 0, .ref 1]) rfl ?_
  refine jv_Ev.m jv_i188 (pc' := 15) (st' := [.int (15 : Int32), .ref 1]) rfl rfl (jv_m_getI rfl rfl rfl rfl) ?_
  refine jv_Ev.steps jv_i188 4 (pc' := 19) (l' := [(2, .int (0 : Int32)), (0, .ref 0), (1, .int p4)]) (st' := [.int (p4 >>> ((0 : Int32) &&& 31)).toInt8.toInt32, .int (15 : Int32), .ref 1]) rfl ?_
  refine jv_Ev.m jv_i188 (pc' := 20) (st' := []) rfl rfl (jv_m_bast rfl (by decide)) ?_
  refine jv_Ev.steps jv_i188 2 (pc' := 22) (l' := [(2, .int (0 : Int32)), (0, .ref 0), (1, .int p4)]) (st' := [.ref 0, .ref 0]) rfl ?_
  refine jv_Ev.m jv_i188 (pc' := 25) (st' := [.int (15 : Int32), .ref 0]) rfl rfl (jv_m_getI rfl rfl rfl rfl) ?_
  refine jv_Ev.steps jv_i188 2 (pc' := 27) (l' := [(2, .int (0 : Int32)), (0, .ref 0), (1, .int p4)]) (st' := [.int (16 : Int32), .ref 0]) rfl ?_
  refine jv_Ev.m jv_i188 (pc' := 30) (st' := []) rfl rfl (jv_m_putI rfl rfl rfl rfl rfl) ?_
  refine jv_Ev.steps jv_i188 3 (pc' := 4) (l' := [(2, .int (-8 : Int32)), (0, .ref 0), (1, .int p4)]) (st' := [.int (-8 : Int32)]) rfl ?_
  refine jv_Ev.br jv_i188 (pc' := 36) (st' := []) rfl (jv_bi_lt.trans (jx_got (by decide))) ?_
  exact jv_Ev.ret jv_i188 rfl rfl

set_option maxRecDepth 100000 in
/-- ProgramBox.type -/
theorem jx_e5 (p0 : Int32) (p1 : Int32) (p2 : Int32) (p3 : Int32) (p4 : Int32) (p5 : Int32)  : jv_Ms 188 [.ref 0, .int p5] (jv_H (jx_K 227) (jv_u (jv_u (jv_u (jv_u (jv_u (jv_u (jv_u (jv_u (jv_u (jv_u (jv_u (jv_u (jv_u (jv_u (jv_u (jv_u (jv_u (jv_u (jv_u (jv_u (jv_u (jv_u (jv_u (jv_u (jv_u (jv_u (jv_u (jv_u (jv_u (jv_u (jv_u (jv_u jx_If 1 (0 : Int32).toNatClampNeg (p1 >>> ((24 : Int32) &&& 31)).toInt8.toInt32.toInt8.toInt32) 0 1 (1 : Int32)) 1 (1 : Int32).toNatClampNeg (p1 >>> ((16 : Int32) &&& 31)).toInt8.toInt32.toInt8.toInt32) 0 1 (2 : Int32)) 1 (2 : Int32).toNatClampNeg (p1 >>> ((8 : Int32) &&& 31)).toInt8.toInt32.toInt8.toInt32) 0 1 (3 : Int32)) 1 (3 : Int32).toNatClampNeg (p1 >>> ((0 : Int32) &&& 31)).toInt8.toInt32.toInt8.toInt32) 0 1 (4 : Int32)) 1 (4 : Int32).toNatClampNeg (p2 >>> ((24 : Int32) &&& 31)).toInt8.toInt32.toInt8.toInt32) 0 1 (5 : Int32)) 1 (5 : Int32).toNatClampNeg (p2 >>> ((16 : Int32) &&& 31)).toInt8.toInt32.toInt8.toInt32) 0 1 (6 : Int32)) 1 (6 : Int32).toNatClampNeg (p2 >>> ((8 : Int32) &&& 31)).toInt8.toInt32.toInt8.toInt32) 0 1 (7 : Int32)) 1 (7 : Int32).toNatClampNeg (p2 >>> ((0 : Int32) &&& 31)).toInt8.toInt32.toInt8.toInt32) 0 1 (8 : Int32)) 1 (8 : Int32).toNatClampNeg (p3 >>> ((24 : Int32) &&& 31)).toInt8.toInt32.toInt8.toInt32) 0 1 (9 : Int32)) 1 (9 : Int32).toNatClampNeg (p3 >>> ((16 : Int32) &&& 31)).toInt8.toInt32.toInt8.toInt32) 0 1 (10 : Int32)) 1 (10 : Int32).toNatClampNeg (p3 >>> ((8 : Int32) &&& 31)).toInt8.toInt32.toInt8.toInt32) 0 1 (11 : Int32)) 1 (11 : Int32).toNatClampNeg (p3 >>> ((0 : Int32) &&& 31)).toInt8.toInt32.toInt8.toInt32) 0 1 (12 : Int32)) 1 (12 : Int32).toNatClampNeg (p4 >>> ((24 : Int32) &&& 31)).toInt8.toInt32.toInt8.toInt32) 0 1 (13 : Int32)) 1 (13 : Int32).toNatClampNeg (p4 >>> ((16 : Int32) &&& 31)).toInt8.toInt32.toInt8.toInt32) 0 1 (14 : Int32)) 1 (14 : Int32).toNatClampNeg (p4 >>> ((8 : Int32) &&& 31)).toInt8.toInt32.toInt8.toInt32) 0 1 (15 : Int32)) 1 (15 : Int32).toNatClampNeg (p4 >>> ((0 : Int32) &&& 31)).toInt8.toInt32.toInt8.toInt32) 0 1 (16 : Int32)) jx_L0 (jx_R 227)) 227 1572950 (none, (jv_H (jx_K 227) (jv_u (jv_u (jv_u (jv_u (jv_u (jv_u (jv_u (jv_u (jv_u (jv_u (jv_u (jv_u (jv_u (jv_u (jv_u (jv_u (jv_u (jv_u (jv_u (jv_u (jv_u (jv_u (jv_u (jv_u (jv_u (jv_u (jv_u (jv_u (jv_u (jv_u (jv_u (jv_u (jv_u (jv_u (jv_u (jv_u (jv_u (jv_u (jv_u (jv_u jx_If 1 (0 : Int32).toNatClampNeg (p1 >>> ((24 : Int32) &&& 31)).toInt8.toInt32.toInt8.toInt32) 0 1 (1 : Int32)) 1 (1 : Int32).toNatClampNeg (p1 >>> ((16 : Int32) &&& 31)).toInt8.toInt32.toInt8.toInt32) 0 1 (2 : Int32)) 1 (2 : Int32).toNatClampNeg (p1 >>> ((8 : Int32) &&& 31)).toInt8.toInt32.toInt8.toInt32) 0 1 (3 : Int32)) 1 (3 : Int32).toNatClampNeg (p1 >>> ((0 : Int32) &&& 31)).toInt8.toInt32.toInt8.toInt32) 0 1 (4 : Int32)) 1 (4 : Int32).toNatClampNeg (p2 >>> ((24 : Int32) &&& 31)).toInt8.toInt32.toInt8.toInt32) 0 1 (5 : Int32)) 1 (5 : Int32).toNatClampNeg (p2 >>> ((16 : Int32) &&& 31)).toInt8.toInt32.toInt8.toInt32) 0 1 (6 : Int32)) 1 (6 : Int32).toNatClampNeg (p2 >>> ((8 : Int32) &&& 31)).toInt8.toInt32.toInt8.toInt32) 0 1 (7 : Int32)) 1 (7 : Int32).toNatClampNeg (p2 >>> ((0 : Int32) &&& 31)).toInt8.toInt32.toInt8.toInt32) 0 1 (8 : Int32)) 1 (8 : Int32).toNatClampNeg (p3 >>> ((24 : Int32) &&& 31)).toInt8.toInt32.toInt8.toInt32) 0 1 (9 : Int32)) 1 (9 : Int32).toNatClampNeg (p3 >>> ((16 : Int32) &&& 31)).toInt8.toInt32.toInt8.toInt32) 0 1 (10 : Int32)) 1 (10 : Int32).toNatClampNeg (p3 >>> ((8 : Int32) &&& 31)).toInt8.toInt32.toInt8.toInt32) 0 1 (11 : Int32)) 1 (11 : Int32).toNatClampNeg (p3 >>> ((0 : Int32) &&& 31)).toInt8.toInt32.toInt8.toInt32) 0 1 (12 : Int32)) 1 (12 : Int32).toNatClampNeg (p4 >>> ((24 : Int32) &&& 31)).toInt8.toInt32.toInt8.toInt32) 0 1 (13 : Int32)) 1 (13 : Int32).toNatClampNeg (p4 >>> ((16 : Int32) &&& 31)).toInt8.toInt32.toInt8.toInt32) 0 1 (14 : Int32)) 1 (14 : Int32).toNatClampNeg (p4 >>> ((8 : Int32) &&& 31)).toInt8.toInt32.toInt8.toInt32) 0 1 (15 : Int32)) 1 (15 : Int32).toNatClampNeg (p4 >>> ((0 : Int32) &&& 31)).toInt8.toInt32.toInt8.toInt32) 0 1 (16 : Int32)) 1 (16 : Int32).toNatClampNeg (p5 >>> ((24 : Int32) &&& 31)).toInt8.toInt32.toInt8.toInt32) 0 1 (17 : Int32)) 1 (17 : Int32).toNatClampNeg (p5 >>> ((16 : Int32) &&& 31)).toInt8.toInt32.toInt8.toInt32) 0 1 (18 : Int32)) 1 (18 : Int32).toNatClampNeg (p5 >>> ((8 : Int32) &&& 31)).toInt8.toInt32.toInt8.toInt32) 0 1 (19 : Int32)) 1 (19 : Int32).toNatClampNeg (p5 >>> ((0 : Int32) &&& 31)).toInt8.toInt32.toInt8.toInt32) 0 1 (20 : Int32)) jx_L0 (jx_R 227)), 227, 1572950) := by
  show jv_Ev 188 0 [(0, .ref 0), (1, .int p5)] [] (jv_H (jx_K 227) (jv_u (jv_u (jv_u (jv_u (jv_u (jv_u (jv_u (jv_u (jv_u (jv_u (jv_u (jv_u (jv_u (jv_u (jv_u (jv_u (jv_u (jv_u (jv_u (jv_u (jv_u (jv_u (jv_u (jv_u (jv_u (jv_u (jv_u (jv_u (jv_u (jv_u (jv_u (jv_u jx_If 1 (0 : Int32).toNatClampNeg (p1 >>> ((24 : Int32) &&& 31)).toInt8.toInt32.toInt8.toInt32) 0 1 (1 : Int32)) 1 (1 : Int32).toNatClampNeg (p1 >>> ((16 : Int32) &&& 31)).toInt8.toInt32.toInt8.toInt32) 0 1 (2 : Int32)) 1 (2 : Int32).toNatClampNeg (p1 >>> ((8 : Int32) &&& 31)).toInt8.toInt32.toInt8.toInt32) 0 1 (3 : Int32)) 1 (3 : Int32).toNatClampNeg (p1 >>> ((0 : Int32) &&& 31)).toInt8.toInt32.toInt8.toInt32) 0 1 (4 : Int32)) 1 (4 : Int32).toNatClampNeg (p2 >>> ((24 : Int32) &&& 31)).toInt8.toInt32.toInt8.toInt32) 0 1 (5 : Int32)) 1 (5 : Int32).toNatClampNeg (p2 >>> ((16 : Int32) &&& 31)).toInt8.toInt32.toInt8.toInt32) 0 1 (6 : Int32)) 1 (6 : Int32).toNatClampNeg (p2 >>> ((8 : Int32) &&& 31)).toInt8.toInt32.toInt8.toInt32) 0 1 (7 : Int32)) 1 (7 : Int32).toNatClampNeg (p2 >>> ((0 : Int32) &&& 31)).toInt8.toInt32.toInt8.toInt32) 0 1 (8 : Int32)) 1 (8 : Int32).toNatClampNeg (p3 >>> ((24 : Int32) &&& 31)).toInt8.toInt32.toInt8.toInt32) 0 1 (9 : Int32)) 1 (9 : Int32).toNatClampNeg (p3 >>> ((16 : Int32) &&& 31)).toInt8.toInt32.toInt8.toInt32) 0 1 (10 : Int32)) 1 (10 : Int32).toNatClampNeg (p3 >>> ((8 : Int32) &&& 31)).toInt8.toInt32.toInt8.toInt32) 0 1 (11 : Int32)) 1 (11 : Int32).toNatClampNeg (p3 >>> ((0 : Int32) &&& 31)).toInt8.toInt32.toInt8.toInt32) 0 1 (12 : Int32)) 1 (12 : Int32).toNatClampNeg (p4 >>> ((24 : Int32) &&& 31)).toInt8.toInt32.toInt8.toInt32) 0 1 (13 : Int32)) 1 (13 : Int32).toNatClampNeg (p4 >>> ((16 : Int32) &&& 31)).toInt8.toInt32.toInt8.toInt32) 0 1 (14 : Int32)) 1 (14 : Int32).toNatClampNeg (p4 >>> ((8 : Int32) &&& 31)).toInt8.toInt32.toInt8.toInt32) 0 1 (15 : Int32)) 1 (15 : Int32).toNatClampNeg (p4 >>> ((0 : Int32) &&& 31)).toInt8.toInt32.toInt8.toInt32) 0 1 (16 : Int32)) jx_L0 (jx_R 227)) 227 1572950 _
  refine jv_Ev.steps jv_i188 3 (pc' := 4) (l' := [(2, .int (24 : Int32)), (0, .ref 0), (1, .int p5)]) (st' := [.int (24 : Int32)]) rfl ?_
  refine jv_Ev.br jv_i188 (pc' := 7) (st' := []) rfl (jv_bi_lt.trans (jx_gof (by decide))) ?_
  refine jv_Ev.steps jv_i188 1 (pc' := 8) (l' := [(2, .int (24 : Int32)), (0, .ref 0), (1, .int p5)]) (st' := [.ref 0]) rfl ?_
  refine jv_Ev.m jv_i188 (pc' := 11) (st' := [.ref 1]) rfl rfl (jv_m_getR rfl rfl rfl rfl) ?_
  refine jv_Ev.steps jv_i188 1 (pc' := 12) (l' := [(2, .int (24 : Int32)), (0, .ref 0), (1, .int p5)]) (st' := [.ref 0, .ref 1]) rfl ?_
  refine jv_Ev.m jv_i188 (pc' := 15) (st' := [.int (16 : Int32), .ref 1]) rfl rfl (jv_m_getI rfl rfl rfl rfl) ?_
  refine jv_Ev.steps jv_i188 4 (pc' := 19) (l' := [(2, .int (24 : Int32)), (0, .ref 0), (1, .int p5)]) (st' := [.int (p5 >>> ((24 : Int32) &&& 31)).toInt8.toInt32, .int (16 : Int32), .ref 1]) rfl ?_
  refine jv_Ev.m jv_i188 (pc' := 20) (st' := []) rfl rfl (jv_m_bast rfl (by decide)) ?_
  refine jv_Ev.steps jv_i188 2 (pc' := 22) (l' := [(2, .int (24 : Int32)), (0, .ref 0), (1, .int p5)]) (st' := [.ref 0, .ref 0]) rfl ?_
  refine jv_Ev.m jv_i188 (pc' := 25) (st' := [.int (16 : Int32), .ref 0]) rfl rfl (jv_m_getI rfl rfl rfl rfl) ?_
  refine jv_Ev.steps jv_i188 2 (pc' := 27) (l' := [(2, .int (24 : Int32)), (0, .ref 0), (1, .int p5)]) (st' := [.int (17 : Int32), .ref 0]) rfl ?_
  refine jv_Ev.m jv_i188 (pc' := 30) (st' := []) rfl rfl (jv_m_putI rfl rfl rfl rfl rfl) ?_
  refine jv_Ev.steps jv_i188 3 (pc' := 4) (l' := [(2, .int (16 : Int32)), (0, .ref 0), (1, .int p5)]) (st' := [.int (16 : Int32)]) rfl ?_
  refine jv_Ev.br jv_i188 (pc' := 7) (st' := []) rfl (jv_bi_lt.trans (jx_gof (by decide))) ?_
  refine jv_Ev.steps jv_i188 1 (pc' := 8) (l' := [(2, .int (16 : Int32)), (0, .ref 0), (1, .int p5)]) (st' := [.ref 0]) rfl ?_
  refine jv_Ev.m jv_i188 (pc' := 11) (st' := [.ref 1]) rfl rfl (jv_m_getR rfl rfl rfl rfl) ?_
  refine jv_Ev.steps jv_i188 1 (pc' := 12) (l' := [(2, .int (16 : Int32)), (0, .ref 0), (1, .int p5)]) (st' := [.ref 0, .ref 1]) rfl ?_
  refine jv_Ev.m jv_i188 (pc' := 15) (st' := [.int (17 : Int32), .ref 1]) rfl rfl (jv_m_getI rfl rfl rfl rfl) ?_
  refine jv_Ev.steps jv_i188 4 (pc' := 19) (l' := [(2, .int (16 : Int32)), (0, .ref 0), (1, .int p5)]) (st' := [.int (p5 >>> ((16 : Int32) &&& 31)).toInt8.toInt32, .int (17 : Int32), .ref 1]) rfl ?_
  refine jv_Ev.m jv_i188 (pc' := 20) (st' := []) rfl rfl (jv_m_bast rfl (by decide)) ?_
  refine jv_Ev.steps jv_i188 2 (pc' := 22) (l' := [(2, .int (16 : Int32)), (0, .ref 0), (1, .int p5)]) (st' := [.ref 0, .ref 0]) rfl ?_
  refine jv_Ev.m jv_i188 (pc' := 25) (st' := [.int (17 : Int32), .ref 0]) rfl rfl (jv_m_getI rfl rfl rfl rfl) ?_
  refine jv_Ev.steps jv_i188 2 (pc' := 27) (l' := [(2, .int (16 : Int32)), (0, .ref 0), (1, .int p5)]) (st' := [.int (18 : Int32), .ref 0]) rfl ?_
  refine jv_Ev.m jv_i188 (pc' := 30) (st' := []) rfl rfl (jv_m_putI rfl rfl rfl rfl rfl) ?_
  refine jv_Ev.steps jv_i188 3 (pc' := 4) (l' := [(2, .int (8 : Int32)), (0, .ref 0), (1, .int p5)]) (st' := [.int (8 : Int32)]) rfl ?_
  refine jv_Ev.br jv_i188 (pc' := 7) (st' := []) rfl (jv_bi_lt.trans (jx_gof (by decide))) ?_
  refine jv_Ev.steps jv_i188 1 (pc' := 8) (l' := [(2, .int (8 : Int32)), (0, .ref 0), (1, .int p5)]) (st' := [.ref 0]) rfl ?_
  refine jv_Ev.m jv_i188 (pc' := 11) (st' := [.ref 1]) rfl rfl (jv_m_getR rfl rfl rfl rfl) ?_
  refine jv_Ev.steps jv_i188 1 (pc' := 12) (l' := [(2, .int (8 : Int32)), (0, .ref 0), (1, .int p5)]) (st' := [.ref 0, .ref 1]) rfl ?_
  refine jv_Ev.m jv_i188 (pc' := 15) (st' := [.int (18 : Int32), .ref 1]) rfl rfl (jv_m_getI rfl rfl rfl rfl) ?_
  refine jv_Ev.steps jv_i188 4 (pc' := 19) (l' := [(2, .int (8 : Int32)), (0, .ref 0), (1, .int p5)]) (st' := [.int (p5 >>> ((8 : Int32) &&& 31)).toInt8.toInt32, .int (18 : Int32), .ref 1]) rfl ?_
  refine jv_Ev.m jv_i188 (pc' := 20) (st' := []) rfl rfl (jv_m_bast rfl (by decide)) ?_
  refine jv_Ev.steps jv_i188 2 (pc' := 22) (l' := [(2, .int (8 : Int32)), (0, .ref 0), (1, .int p5)]) (st' := [.ref 0, .ref 0]) rfl ?_
  refine jv_Ev.m jv_i188 (pc' := 25) (st' := [.int (18 : Int32), .ref 0]) rfl rfl (jv_m_getI rfl rfl rfl rfl) ?_
  refine jv_Ev.steps jv_i188 2 (pc' := 27) (l' := [(2, .int (8 : Int32)), (0, .ref 0), (1, .int p5)]) (st' := [.int (19 : Int32), .ref 0]) rfl ?_
  refine jv_Ev.m jv_i188 (pc' := 30) (st' := []) rfl rfl (jv_m_putI rfl rfl rfl rfl rfl) ?_
  refine jv_Ev.steps jv_i188 3 (pc' := 4) (l' := [(2, .int (0 : Int32)), (0, .ref 0), (1, .int p5)]) (st' := [.int (0 : Int32)]) rfl ?_
  refine jv_Ev.br jv_i188 (pc' := 7) (st' := []) rfl (jv_bi_lt.trans (jx_gof (by decide))) ?_
  refine jv_Ev.steps jv_i188 1 (pc' := 8) (l' := [(2, .int (0 : Int32)), (0, .ref 0), (1, .int p5)]) (st' := [.ref 0]) rfl ?_
  refine jv_Ev.m jv_i188 (pc' := 11) (st' := [.ref 1]) rfl rfl (jv_m_getR rfl rfl rfl rfl) ?_
  refine jv_Ev.steps jv_i188 1 (pc' := 12) (l' := [(2, .int (0 : Int32)), (0, .ref 0), (1, .int p5)]) (st' := [.ref 0, .ref 1]) rfl ?_
  refine jv_Ev.m jv_i188 (pc' := 15) (st' := [.int (19 : Int32), .ref 1]) rfl rfl (jv_m_getI rfl rfl rfl rfl) ?_
  refine jv_Ev.steps jv_i188 4 (pc' := 19) (l' := [(2, .int (0 : Int32)), (0, .ref 0), (1, .int p5)]) (st' := [.int (p5 >>> ((0 : Int32) &&& 31)).toInt8.toInt32, .int (19 : Int32), .ref 1]) rfl ?_
  refine jv_Ev.m jv_i188 (pc' := 20) (st' := []) rfl rfl (jv_m_bast rfl (by decide)) ?_
  refine jv_Ev.steps jv_i188 2 (pc' := 22) (l' := [(2, .int (0 : Int32)), (0, .ref 0), (1, .int p5)]) (st' := [.ref 0, .ref 0]) rfl ?_
  refine jv_Ev.m jv_i188 (pc' := 25) (st' := [.int (19 : Int32), .ref 0]) rfl rfl (jv_m_getI rfl rfl rfl rfl) ?_
  refine jv_Ev.steps jv_i188 2 (pc' := 27) (l' := [(2, .int (0 : Int32)), (0, .ref 0), (1, .int p5)]) (st' := [.int (20 : Int32), .ref 0]) rfl ?_
  refine jv_Ev.m jv_i188 (pc' := 30) (st' := []) rfl rfl (jv_m_putI rfl rfl rfl rfl rfl) ?_
  refine jv_Ev.steps jv_i188 3 (pc' := 4) (l' := [(2, .int (-8 : Int32)), (0, .ref 0), (1, .int p5)]) (st' := [.int (-8 : Int32)]) rfl ?_
  refine jv_Ev.br jv_i188 (pc' := 36) (st' := []) rfl (jv_bi_lt.trans (jx_got (by decide))) ?_
  exact jv_Ev.ret jv_i188 rfl rfl

set_option maxRecDepth 100000 in
/-- ProgramBox.feed -/
theorem jx_e6 (p0 : Int32) (p1 : Int32) (p2 : Int32) (p3 : Int32) (p4 : Int32) (p5 : Int32)  : jv_Ms 418 [.ref 0, .int p1, .int p2, .int p3, .int p4, .int p5] (jv_H (jx_K 227) jx_If jx_L0 (jx_R 227)) 227 1572950 (some (.int (20 : Int32)), (jv_H (jx_K 227) (jv_u (jv_u (jv_u (jv_u (jv_u (jv_u (jv_u (jv_u (jv_u (jv_u (jv_u (jv_u (jv_u (jv_u (jv_u (jv_u (jv_u (jv_u (jv_u (jv_u (jv_u (jv_u (jv_u (jv_u (jv_u (jv_u (jv_u (jv_u (jv_u (jv_u (jv_u (jv_u (jv_u (jv_u (jv_u (jv_u (jv_u (jv_u (jv_u (jv_u jx_If 1 (0 : Int32).toNatClampNeg (p1 >>> ((24 : Int32) &&& 31)).toInt8.toInt32.toInt8.toInt32) 0 1 (1 : Int32)) 1 (1 : Int32).toNatClampNeg (p1 >>> ((16 : Int32) &&& 31)).toInt8.toInt32.toInt8.toInt32) 0 1 (2 : Int32)) 1 (2 : Int32).toNatClampNeg (p1 >>> ((8 : Int32) &&& 31)).toInt8.toInt32.toInt8.toInt32) 0 1 (3 : Int32)) 1 (3 : Int32).toNatClampNeg (p1 >>> ((0 : Int32) &&& 31)).toInt8.toInt32.toInt8.toInt32) 0 1 (4 : Int32)) 1 (4 : Int32).toNatClampNeg (p2 >>> ((24 : Int32) &&& 31)).toInt8.toInt32.toInt8.toInt32) 0 1 (5 : Int32)) 1 (5 : Int32).toNatClampNeg (p2 >>> ((16 : Int32) &&& 31)).toInt8.toInt32.toInt8.toInt32) 0 1 (6 : Int32)) 1 (6 : Int32).toNatClampNeg (p2 >>> ((8 : Int32) &&& 31)).toInt8.toInt32.toInt8.toInt32) 0 1 (7 : Int32)) 1 (7 : Int32).toNatClampNeg (p2 >>> ((0 : Int32) &&& 31)).toInt8.toInt32.toInt8.toInt32) 0 1 (8 : Int32)) 1 (8 : Int32).toNatClampNeg (p3 >>> ((24 : Int32) &&& 31)).toInt8.toInt32.toInt8.toInt32) 0 1 (9 : Int32)) 1 (9 : Int32).toNatClampNeg (p3 >>> ((16 : Int32) &&& 31)).toInt8.toInt32.toInt8.toInt32) 0 1 (10 : Int32)) 1 (10 : Int32).toNatClampNeg (p3 >>> ((8 : Int32) &&& 31)).toInt8.toInt32.toInt8.toInt32) 0 1 (11 : Int32)) 1 (11 : Int32).toNatClampNeg (p3 >>> ((0 : Int32) &&& 31)).toInt8.toInt32.toInt8.toInt32) 0 1 (12 : Int32)) 1 (12 : Int32).toNatClampNeg (p4 >>> ((24 : Int32) &&& 31)).toInt8.toInt32.toInt8.toInt32) 0 1 (13 : Int32)) 1 (13 : Int32).toNatClampNeg (p4 >>> ((16 : Int32) &&& 31)).toInt8.toInt32.toInt8.toInt32) 0 1 (14 : Int32)) 1 (14 : Int32).toNatClampNeg (p4 >>> ((8 : Int32) &&& 31)).toInt8.toInt32.toInt8.toInt32) 0 1 (15 : Int32)) 1 (15 : Int32).toNatClampNeg (p4 >>> ((0 : Int32) &&& 31)).toInt8.toInt32.toInt8.toInt32) 0 1 (16 : Int32)) 1 (16 : Int32).toNatClampNeg (p5 >>> ((24 : Int32) &&& 31)).toInt8.toInt32.toInt8.toInt32) 0 1 (17 : Int32)) 1 (17 : Int32).toNatClampNeg (p5 >>> ((16 : Int32) &&& 31)).toInt8.toInt32.toInt8.toInt32) 0 1 (18 : Int32)) 1 (18 : Int32).toNatClampNeg (p5 >>> ((8 : Int32) &&& 31)).toInt8.toInt32.toInt8.toInt32) 0 1 (19 : Int32)) 1 (19 : Int32).toNatClampNeg (p5 >>> ((0 : Int32) &&& 31)).toInt8.toInt32.toInt8.toInt32) 0 1 (20 : Int32)) jx_L0 (jx_R 227)), 227, 1572950) := by
  show jv_Ev 418 0 [(0, .ref 0), (1, .int p1), (2, .int p2), (3, .int p3), (4, .int p4), (5, .int p5)] [] (jv_H (jx_K 227) jx_If jx_L0 (jx_R 227)) 227 1572950 _
  refine jv_Ev.steps jv_i418 1 (pc' := 1) (l' := [(0, .ref 0), (1, .int p1), (2, .int p2), (3, .int p3), (4, .int p4), (5, .int p5)]) (st' := [.ref 0]) rfl ?_
  refine jv_Ev.m jv_i418 (pc' := 4) (st' := [.int (0 : Int32)]) rfl rfl (jv_m_getI rfl rfl rfl rfl) ?_
  refine jv_Ev.steps jv_i418 1 (pc' := 7) (l' := [(0, .ref 0), (1, .int p1), (2, .int p2), (3, .int p3), (4, .int p4), (5, .int p5)]) (st' := [.int (8172 : Int32), .int (0 : Int32)]) rfl ?_
  refine jv_Ev.br jv_i418 (pc' := 20) (st' := []) rfl (jv_bc_le.trans (jx_got (by decide))) ?_
  refine jv_Ev.steps jv_i418 2 (pc' := 22) (l' := [(0, .ref 0), (1, .int p1), (2, .int p2), (3, .int p3), (4, .int p4), (5, .int p5)]) (st' := [.int p1, .ref 0]) rfl ?_
  refine jv_Ev.c jv_i418 (pc' := 25) (S' := []) jv_i188 [.ref 0, .int p1] rfl rfl rfl rfl (jv_cal rfl (jv_H_at rfl) rfl rfl) rfl (jx_e1 p0 p1 p2 p3 p4 p5 ) rfl rfl ?_
  refine jv_Ev.steps jv_i418 2 (pc' := 27) (l' := [(0, .ref 0), (1, .int p1), (2, .int p2), (3, .int p3), (4, .int p4), (5, .int p5)]) (st' := [.int p2, .ref 0]) rfl ?_
  refine jv_Ev.c jv_i418 (pc' := 30) (S' := []) jv_i188 [.ref 0, .int p2] rfl rfl rfl rfl (jv_cal rfl (jv_H_at rfl) rfl rfl) rfl (jx_e2 p0 p1 p2 p3 p4 p5 ) rfl rfl ?_
  refine jv_Ev.steps jv_i418 2 (pc' := 32) (l' := [(0, .ref 0), (1, .int p1), (2, .int p2), (3, .int p3), (4, .int p4), (5, .int p5)]) (st' := [.int p3, .ref 0]) rfl ?_
  refine jv_Ev.c jv_i418 (pc' := 35) (S' := []) jv_i188 [.ref 0, .int p3] rfl rfl rfl rfl (jv_cal rfl (jv_H_at rfl) rfl rfl) rfl (jx_e3 p0 p1 p2 p3 p4 p5 ) rfl rfl ?_
  refine jv_Ev.steps jv_i418 2 (pc' := 38) (l' := [(0, .ref 0), (1, .int p1), (2, .int p2), (3, .int p3), (4, .int p4), (5, .int p5)]) (st' := [.int p4, .ref 0]) rfl ?_
  refine jv_Ev.c jv_i418 (pc' := 41) (S' := []) jv_i188 [.ref 0, .int p4] rfl rfl rfl rfl (jv_cal rfl (jv_H_at rfl) rfl rfl) rfl (jx_e4 p0 p1 p2 p3 p4 p5 ) rfl rfl ?_
  refine jv_Ev.steps jv_i418 2 (pc' := 44) (l' := [(0, .ref 0), (1, .int p1), (2, .int p2), (3, .int p3), (4, .int p4), (5, .int p5)]) (st' := [.int p5, .ref 0]) rfl ?_
  refine jv_Ev.c jv_i418 (pc' := 47) (S' := []) jv_i188 [.ref 0, .int p5] rfl rfl rfl rfl (jv_cal rfl (jv_H_at rfl) rfl rfl) rfl (jx_e5 p0 p1 p2 p3 p4 p5 ) rfl rfl ?_
  refine jv_Ev.steps jv_i418 1 (pc' := 48) (l' := [(0, .ref 0), (1, .int p1), (2, .int p2), (3, .int p3), (4, .int p4), (5, .int p5)]) (st' := [.ref 0]) rfl ?_
  refine jv_Ev.m jv_i418 (pc' := 51) (st' := [.int (20 : Int32)]) rfl rfl (jv_m_getI rfl rfl rfl rfl) ?_
  exact jv_Ev.ret jv_i418 rfl rfl

set_option maxRecDepth 100000 in
/-- the law's feed -/
theorem jx_w7 (hTb : jv_TOk jv_Tb) (hT2 : jx_T2Ok) (p0 : Int32) (p1 : Int32) (p2 : Int32) (p3 : Int32) (p4 : Int32) (p5 : Int32)  : jx_Wr 440 [(0, 16, 19, 13)] [.ref 0, .int p1, .int p2, .int p3, .int p4, .int p5, .ref 226] (jv_H (jx_K 227) jx_If jx_L0 (jx_R 227)) 227 1572950 (some (.int (0 : Int32)), (jv_H (jx_K 227) (jv_u (jv_u (jv_u (jv_u (jv_u (jv_u (jv_u (jv_u (jv_u (jv_u (jv_u (jv_u (jv_u (jv_u (jv_u (jv_u (jv_u (jv_u (jv_u (jv_u (jv_u (jv_u (jv_u (jv_u (jv_u (jv_u (jv_u (jv_u (jv_u (jv_u (jv_u (jv_u (jv_u (jv_u (jv_u (jv_u (jv_u (jv_u (jv_u (jv_u jx_If 1 (0 : Int32).toNatClampNeg (p1 >>> ((24 : Int32) &&& 31)).toInt8.toInt32.toInt8.toInt32) 0 1 (1 : Int32)) 1 (1 : Int32).toNatClampNeg (p1 >>> ((16 : Int32) &&& 31)).toInt8.toInt32.toInt8.toInt32) 0 1 (2 : Int32)) 1 (2 : Int32).toNatClampNeg (p1 >>> ((8 : Int32) &&& 31)).toInt8.toInt32.toInt8.toInt32) 0 1 (3 : Int32)) 1 (3 : Int32).toNatClampNeg (p1 >>> ((0 : Int32) &&& 31)).toInt8.toInt32.toInt8.toInt32) 0 1 (4 : Int32)) 1 (4 : Int32).toNatClampNeg (p2 >>> ((24 : Int32) &&& 31)).toInt8.toInt32.toInt8.toInt32) 0 1 (5 : Int32)) 1 (5 : Int32).toNatClampNeg (p2 >>> ((16 : Int32) &&& 31)).toInt8.toInt32.toInt8.toInt32) 0 1 (6 : Int32)) 1 (6 : Int32).toNatClampNeg (p2 >>> ((8 : Int32) &&& 31)).toInt8.toInt32.toInt8.toInt32) 0 1 (7 : Int32)) 1 (7 : Int32).toNatClampNeg (p2 >>> ((0 : Int32) &&& 31)).toInt8.toInt32.toInt8.toInt32) 0 1 (8 : Int32)) 1 (8 : Int32).toNatClampNeg (p3 >>> ((24 : Int32) &&& 31)).toInt8.toInt32.toInt8.toInt32) 0 1 (9 : Int32)) 1 (9 : Int32).toNatClampNeg (p3 >>> ((16 : Int32) &&& 31)).toInt8.toInt32.toInt8.toInt32) 0 1 (10 : Int32)) 1 (10 : Int32).toNatClampNeg (p3 >>> ((8 : Int32) &&& 31)).toInt8.toInt32.toInt8.toInt32) 0 1 (11 : Int32)) 1 (11 : Int32).toNatClampNeg (p3 >>> ((0 : Int32) &&& 31)).toInt8.toInt32.toInt8.toInt32) 0 1 (12 : Int32)) 1 (12 : Int32).toNatClampNeg (p4 >>> ((24 : Int32) &&& 31)).toInt8.toInt32.toInt8.toInt32) 0 1 (13 : Int32)) 1 (13 : Int32).toNatClampNeg (p4 >>> ((16 : Int32) &&& 31)).toInt8.toInt32.toInt8.toInt32) 0 1 (14 : Int32)) 1 (14 : Int32).toNatClampNeg (p4 >>> ((8 : Int32) &&& 31)).toInt8.toInt32.toInt8.toInt32) 0 1 (15 : Int32)) 1 (15 : Int32).toNatClampNeg (p4 >>> ((0 : Int32) &&& 31)).toInt8.toInt32.toInt8.toInt32) 0 1 (16 : Int32)) 1 (16 : Int32).toNatClampNeg (p5 >>> ((24 : Int32) &&& 31)).toInt8.toInt32.toInt8.toInt32) 0 1 (17 : Int32)) 1 (17 : Int32).toNatClampNeg (p5 >>> ((16 : Int32) &&& 31)).toInt8.toInt32.toInt8.toInt32) 0 1 (18 : Int32)) 1 (18 : Int32).toNatClampNeg (p5 >>> ((8 : Int32) &&& 31)).toInt8.toInt32.toInt8.toInt32) 0 1 (19 : Int32)) 1 (19 : Int32).toNatClampNeg (p5 >>> ((0 : Int32) &&& 31)).toInt8.toInt32.toInt8.toInt32) 0 1 (20 : Int32)) (jv_u jx_L0 226 (0 : Int32).toNatClampNeg (20 : Int64)) (jx_R 227)), 227, 1572950) := by
  refine jx_Wr.of hT2 (by decide) rfl (Nat.le_of_ble_eq_true rfl) ?_
  intro p l e R s m args below meth c E hl F hZ htb hRc hRs
  show jw p l e R s m args below meth c E 8 227 1572950 _ 0 [(0, .ref 0), (1, .int p1), (2, .int p2), (3, .int p3), (4, .int p4), (5, .int p5), (6, .ref 226)] [] (jv_H (jx_K 227) jx_If jx_L0 (jx_R 227)) 227 1572950
  have hRc : R.cells = 227 - 227 := hRc
  have hRs : R.slots = 1572950 - 1572950 := hRs
  refine jw.steps F jx_i440 8 (pc' := 11) (l' := [(0, .ref 0), (1, .int p1), (2, .int p2), (3, .int p3), (4, .int p4), (5, .int p5), (6, .ref 226)]) (st' := [.int p5, .int p4, .int p3, .int p2, .int p1, .ref 0, .int (0 : Int32), .ref 226]) rfl ?_
  refine jw.ca hTb F jx_i440 (pc' := 14) (S' := [.int (20 : Int32), .int (0 : Int32), .ref 226]) rfl jv_i418 [.ref 0, .int p1, .int p2, .int p3, .int p4, .int p5] rfl rfl rfl rfl (jx_cal2 rfl (jv_H_at rfl) rfl rfl) rfl (jx_e6 p0 p1 p2 p3 p4 p5 ) (by omega) (by omega) rfl rfl ?_
  refine jw.steps F jx_i440 1 (pc' := 15) (l' := [(0, .ref 0), (1, .int p1), (2, .int p2), (3, .int p3), (4, .int p4), (5, .int p5), (6, .ref 226)]) (st' := [.long (20 : Int64), .int (0 : Int32), .ref 226]) rfl ?_
  refine jw.me F jx_i440 (pc' := 16) (st' := []) rfl rfl (jv_m_last rfl (by decide)) ?_
  refine jw.steps F jx_i440 2 (pc' := 24) (l' := [(0, .ref 0), (1, .int p1), (2, .int p2), (3, .int p3), (4, .int p4), (5, .int p5), (6, .ref 226)]) (st' := [.int (0 : Int32)]) rfl ?_
  exact jw.ret F jx_i440 rfl rfl

set_option maxRecDepth 100000 in
theorem jv_i351 : jv_I 351 8 (some .int) 0 0 jv_c351 := ⟨rfl, rfl, rfl, rfl, rfl⟩
set_option maxRecDepth 100000 in
/-- ProgramBoxModel.feed -/
theorem jx_e8 (p0 : Int32) (p1 : Int32) (p2 : Int32) (p3 : Int32) (p4 : Int32) (p5 : Int32)  : jv_Ms 351 [.ref 178, .int p1, .int p2, .int p3, .int p4, .int p5] (jv_H (jx_K 227) (jv_u (jv_u (jv_u (jv_u (jv_u (jv_u (jv_u (jv_u (jv_u (jv_u (jv_u (jv_u (jv_u (jv_u (jv_u (jv_u (jv_u (jv_u (jv_u (jv_u (jv_u (jv_u (jv_u (jv_u (jv_u (jv_u (jv_u (jv_u (jv_u (jv_u (jv_u (jv_u (jv_u (jv_u (jv_u (jv_u (jv_u (jv_u (jv_u (jv_u jx_If 1 (0 : Int32).toNatClampNeg (p1 >>> ((24 : Int32) &&& 31)).toInt8.toInt32.toInt8.toInt32) 0 1 (1 : Int32)) 1 (1 : Int32).toNatClampNeg (p1 >>> ((16 : Int32) &&& 31)).toInt8.toInt32.toInt8.toInt32) 0 1 (2 : Int32)) 1 (2 : Int32).toNatClampNeg (p1 >>> ((8 : Int32) &&& 31)).toInt8.toInt32.toInt8.toInt32) 0 1 (3 : Int32)) 1 (3 : Int32).toNatClampNeg (p1 >>> ((0 : Int32) &&& 31)).toInt8.toInt32.toInt8.toInt32) 0 1 (4 : Int32)) 1 (4 : Int32).toNatClampNeg (p2 >>> ((24 : Int32) &&& 31)).toInt8.toInt32.toInt8.toInt32) 0 1 (5 : Int32)) 1 (5 : Int32).toNatClampNeg (p2 >>> ((16 : Int32) &&& 31)).toInt8.toInt32.toInt8.toInt32) 0 1 (6 : Int32)) 1 (6 : Int32).toNatClampNeg (p2 >>> ((8 : Int32) &&& 31)).toInt8.toInt32.toInt8.toInt32) 0 1 (7 : Int32)) 1 (7 : Int32).toNatClampNeg (p2 >>> ((0 : Int32) &&& 31)).toInt8.toInt32.toInt8.toInt32) 0 1 (8 : Int32)) 1 (8 : Int32).toNatClampNeg (p3 >>> ((24 : Int32) &&& 31)).toInt8.toInt32.toInt8.toInt32) 0 1 (9 : Int32)) 1 (9 : Int32).toNatClampNeg (p3 >>> ((16 : Int32) &&& 31)).toInt8.toInt32.toInt8.toInt32) 0 1 (10 : Int32)) 1 (10 : Int32).toNatClampNeg (p3 >>> ((8 : Int32) &&& 31)).toInt8.toInt32.toInt8.toInt32) 0 1 (11 : Int32)) 1 (11 : Int32).toNatClampNeg (p3 >>> ((0 : Int32) &&& 31)).toInt8.toInt32.toInt8.toInt32) 0 1 (12 : Int32)) 1 (12 : Int32).toNatClampNeg (p4 >>> ((24 : Int32) &&& 31)).toInt8.toInt32.toInt8.toInt32) 0 1 (13 : Int32)) 1 (13 : Int32).toNatClampNeg (p4 >>> ((16 : Int32) &&& 31)).toInt8.toInt32.toInt8.toInt32) 0 1 (14 : Int32)) 1 (14 : Int32).toNatClampNeg (p4 >>> ((8 : Int32) &&& 31)).toInt8.toInt32.toInt8.toInt32) 0 1 (15 : Int32)) 1 (15 : Int32).toNatClampNeg (p4 >>> ((0 : Int32) &&& 31)).toInt8.toInt32.toInt8.toInt32) 0 1 (16 : Int32)) 1 (16 : Int32).toNatClampNeg (p5 >>> ((24 : Int32) &&& 31)).toInt8.toInt32.toInt8.toInt32) 0 1 (17 : Int32)) 1 (17 : Int32).toNatClampNeg (p5 >>> ((16 : Int32) &&& 31)).toInt8.toInt32.toInt8.toInt32) 0 1 (18 : Int32)) 1 (18 : Int32).toNatClampNeg (p5 >>> ((8 : Int32) &&& 31)).toInt8.toInt32.toInt8.toInt32) 0 1 (19 : Int32)) 1 (19 : Int32).toNatClampNeg (p5 >>> ((0 : Int32) &&& 31)).toInt8.toInt32.toInt8.toInt32) 0 1 (20 : Int32)) (jv_u jx_L0 226 (0 : Int32).toNatClampNeg (20 : Int64)) (jx_R 227)) 227 1572950 (some (.int (20 : Int32)), (jv_H (jx_K 227) (jv_u (jv_u (jv_u (jv_u (jv_u (jv_u (jv_u (jv_u (jv_u (jv_u (jv_u (jv_u (jv_u (jv_u (jv_u (jv_u (jv_u (jv_u (jv_u (jv_u (jv_u (jv_u (jv_u (jv_u (jv_u (jv_u (jv_u (jv_u (jv_u (jv_u (jv_u (jv_u (jv_u (jv_u (jv_u (jv_u (jv_u (jv_u (jv_u (jv_u (jv_u (jv_u (jv_u (jv_u (jv_u (jv_u (jv_u (jv_u (jv_u (jv_u (jv_u (jv_u (jv_u (jv_u (jv_u (jv_u (jv_u (jv_u (jv_u (jv_u (jv_u (jv_u (jv_u (jv_u (jv_u (jv_u (jv_u (jv_u (jv_u (jv_u (jv_u (jv_u (jv_u (jv_u (jv_u (jv_u (jv_u (jv_u (jv_u (jv_u (jv_u jx_If 1 (0 : Int32).toNatClampNeg (p1 >>> ((24 : Int32) &&& 31)).toInt8.toInt32.toInt8.toInt32) 0 1 (1 : Int32)) 1 (1 : Int32).toNatClampNeg (p1 >>> ((16 : Int32) &&& 31)).toInt8.toInt32.toInt8.toInt32) 0 1 (2 : Int32)) 1 (2 : Int32).toNatClampNeg (p1 >>> ((8 : Int32) &&& 31)).toInt8.toInt32.toInt8.toInt32) 0 1 (3 : Int32)) 1 (3 : Int32).toNatClampNeg (p1 >>> ((0 : Int32) &&& 31)).toInt8.toInt32.toInt8.toInt32) 0 1 (4 : Int32)) 1 (4 : Int32).toNatClampNeg (p2 >>> ((24 : Int32) &&& 31)).toInt8.toInt32.toInt8.toInt32) 0 1 (5 : Int32)) 1 (5 : Int32).toNatClampNeg (p2 >>> ((16 : Int32) &&& 31)).toInt8.toInt32.toInt8.toInt32) 0 1 (6 : Int32)) 1 (6 : Int32).toNatClampNeg (p2 >>> ((8 : Int32) &&& 31)).toInt8.toInt32.toInt8.toInt32) 0 1 (7 : Int32)) 1 (7 : Int32).toNatClampNeg (p2 >>> ((0 : Int32) &&& 31)).toInt8.toInt32.toInt8.toInt32) 0 1 (8 : Int32)) 1 (8 : Int32).toNatClampNeg (p3 >>> ((24 : Int32) &&& 31)).toInt8.toInt32.toInt8.toInt32) 0 1 (9 : Int32)) 1 (9 : Int32).toNatClampNeg (p3 >>> ((16 : Int32) &&& 31)).toInt8.toInt32.toInt8.toInt32) 0 1 (10 : Int32)) 1 (10 : Int32).toNatClampNeg (p3 >>> ((8 : Int32) &&& 31)).toInt8.toInt32.toInt8.toInt32) 0 1 (11 : Int32)) 1 (11 : Int32).toNatClampNeg (p3 >>> ((0 : Int32) &&& 31)).toInt8.toInt32.toInt8.toInt32) 0 1 (12 : Int32)) 1 (12 : Int32).toNatClampNeg (p4 >>> ((24 : Int32) &&& 31)).toInt8.toInt32.toInt8.toInt32) 0 1 (13 : Int32)) 1 (13 : Int32).toNatClampNeg (p4 >>> ((16 : Int32) &&& 31)).toInt8.toInt32.toInt8.toInt32) 0 1 (14 : Int32)) 1 (14 : Int32).toNatClampNeg (p4 >>> ((8 : Int32) &&& 31)).toInt8.toInt32.toInt8.toInt32) 0 1 (15 : Int32)) 1 (15 : Int32).toNatClampNeg (p4 >>> ((0 : Int32) &&& 31)).toInt8.toInt32.toInt8.toInt32) 0 1 (16 : Int32)) 1 (16 : Int32).toNatClampNeg (p5 >>> ((24 : Int32) &&& 31)).toInt8.toInt32.toInt8.toInt32) 0 1 (17 : Int32)) 1 (17 : Int32).toNatClampNeg (p5 >>> ((16 : Int32) &&& 31)).toInt8.toInt32.toInt8.toInt32) 0 1 (18 : Int32)) 1 (18 : Int32).toNatClampNeg (p5 >>> ((8 : Int32) &&& 31)).toInt8.toInt32.toInt8.toInt32) 0 1 (19 : Int32)) 1 (19 : Int32).toNatClampNeg (p5 >>> ((0 : Int32) &&& 31)).toInt8.toInt32.toInt8.toInt32) 0 1 (20 : Int32)) 178 0 (0 : Int32)) 179 (0 : Int32).toNatClampNeg ((p1 >>> ((24 : Int32) &&& 31)) &&& (255 : Int32))) 178 2 (1 : Int32)) 179 (1 : Int32).toNatClampNeg ((p1 >>> ((16 : Int32) &&& 31)) &&& (255 : Int32))) 178 2 (2 : Int32)) 179 (2 : Int32).toNatClampNeg ((p1 >>> ((8 : Int32) &&& 31)) &&& (255 : Int32))) 178 2 (3 : Int32)) 179 (3 : Int32).toNatClampNeg ((p1 >>> ((0 : Int32) &&& 31)) &&& (255 : Int32))) 178 2 (4 : Int32)) 179 (4 : Int32).toNatClampNeg ((p2 >>> ((24 : Int32) &&& 31)) &&& (255 : Int32))) 178 2 (5 : Int32)) 179 (5 : Int32).toNatClampNeg ((p2 >>> ((16 : Int32) &&& 31)) &&& (255 : Int32))) 178 2 (6 : Int32)) 179 (6 : Int32).toNatClampNeg ((p2 >>> ((8 : Int32) &&& 31)) &&& (255 : Int32))) 178 2 (7 : Int32)) 179 (7 : Int32).toNatClampNeg ((p2 >>> ((0 : Int32) &&& 31)) &&& (255 : Int32))) 178 2 (8 : Int32)) 179 (8 : Int32).toNatClampNeg ((p3 >>> ((24 : Int32) &&& 31)) &&& (255 : Int32))) 178 2 (9 : Int32)) 179 (9 : Int32).toNatClampNeg ((p3 >>> ((16 : Int32) &&& 31)) &&& (255 : Int32))) 178 2 (10 : Int32)) 179 (10 : Int32).toNatClampNeg ((p3 >>> ((8 : Int32) &&& 31)) &&& (255 : Int32))) 178 2 (11 : Int32)) 179 (11 : Int32).toNatClampNeg ((p3 >>> ((0 : Int32) &&& 31)) &&& (255 : Int32))) 178 2 (12 : Int32)) 179 (12 : Int32).toNatClampNeg ((p4 >>> ((24 : Int32) &&& 31)) &&& (255 : Int32))) 178 2 (13 : Int32)) 179 (13 : Int32).toNatClampNeg ((p4 >>> ((16 : Int32) &&& 31)) &&& (255 : Int32))) 178 2 (14 : Int32)) 179 (14 : Int32).toNatClampNeg ((p4 >>> ((8 : Int32) &&& 31)) &&& (255 : Int32))) 178 2 (15 : Int32)) 179 (15 : Int32).toNatClampNeg ((p4 >>> ((0 : Int32) &&& 31)) &&& (255 : Int32))) 178 2 (16 : Int32)) 179 (16 : Int32).toNatClampNeg ((p5 >>> ((24 : Int32) &&& 31)) &&& (255 : Int32))) 178 2 (17 : Int32)) 179 (17 : Int32).toNatClampNeg ((p5 >>> ((16 : Int32) &&& 31)) &&& (255 : Int32))) 178 2 (18 : Int32)) 179 (18 : Int32).toNatClampNeg ((p5 >>> ((8 : Int32) &&& 31)) &&& (255 : Int32))) 178 2 (19 : Int32)) 179 (19 : Int32).toNatClampNeg ((p5 >>> ((0 : Int32) &&& 31)) &&& (255 : Int32))) 178 2 (20 : Int32)) (jv_u jx_L0 226 (0 : Int32).toNatClampNeg (20 : Int64)) (jx_R 227)), 227, 1572950) := by
  show jv_Ev 351 0 [(0, .ref 178), (1, .int p1), (2, .int p2), (3, .int p3), (4, .int p4), (5, .int p5)] [] (jv_H (jx_K 227) (jv_u (jv_u (jv_u (jv_u (jv_u (jv_u (jv_u (jv_u (jv_u (jv_u (jv_u (jv_u (jv_u (jv_u (jv_u (jv_u (jv_u (jv_u (jv_u (jv_u (jv_u (jv_u (jv_u (jv_u (jv_u (jv_u (jv_u (jv_u (jv_u (jv_u (jv_u (jv_u (jv_u (jv_u (jv_u (jv_u (jv_u (jv_u (jv_u (jv_u jx_If 1 (0 : Int32).toNatClampNeg (p1 >>> ((24 : Int32) &&& 31)).toInt8.toInt32.toInt8.toInt32) 0 1 (1 : Int32)) 1 (1 : Int32).toNatClampNeg (p1 >>> ((16 : Int32) &&& 31)).toInt8.toInt32.toInt8.toInt32) 0 1 (2 : Int32)) 1 (2 : Int32).toNatClampNeg (p1 >>> ((8 : Int32) &&& 31)).toInt8.toInt32.toInt8.toInt32) 0 1 (3 : Int32)) 1 (3 : Int32).toNatClampNeg (p1 >>> ((0 : Int32) &&& 31)).toInt8.toInt32.toInt8.toInt32) 0 1 (4 : Int32)) 1 (4 : Int32).toNatClampNeg (p2 >>> ((24 : Int32) &&& 31)).toInt8.toInt32.toInt8.toInt32) 0 1 (5 : Int32)) 1 (5 : Int32).toNatClampNeg (p2 >>> ((16 : Int32) &&& 31)).toInt8.toInt32.toInt8.toInt32) 0 1 (6 : Int32)) 1 (6 : Int32).toNatClampNeg (p2 >>> ((8 : Int32) &&& 31)).toInt8.toInt32.toInt8.toInt32) 0 1 (7 : Int32)) 1 (7 : Int32).toNatClampNeg (p2 >>> ((0 : Int32) &&& 31)).toInt8.toInt32.toInt8.toInt32) 0 1 (8 : Int32)) 1 (8 : Int32).toNatClampNeg (p3 >>> ((24 : Int32) &&& 31)).toInt8.toInt32.toInt8.toInt32) 0 1 (9 : Int32)) 1 (9 : Int32).toNatClampNeg (p3 >>> ((16 : Int32) &&& 31)).toInt8.toInt32.toInt8.toInt32) 0 1 (10 : Int32)) 1 (10 : Int32).toNatClampNeg (p3 >>> ((8 : Int32) &&& 31)).toInt8.toInt32.toInt8.toInt32) 0 1 (11 : Int32)) 1 (11 : Int32).toNatClampNeg (p3 >>> ((0 : Int32) &&& 31)).toInt8.toInt32.toInt8.toInt32) 0 1 (12 : Int32)) 1 (12 : Int32).toNatClampNeg (p4 >>> ((24 : Int32) &&& 31)).toInt8.toInt32.toInt8.toInt32) 0 1 (13 : Int32)) 1 (13 : Int32).toNatClampNeg (p4 >>> ((16 : Int32) &&& 31)).toInt8.toInt32.toInt8.toInt32) 0 1 (14 : Int32)) 1 (14 : Int32).toNatClampNeg (p4 >>> ((8 : Int32) &&& 31)).toInt8.toInt32.toInt8.toInt32) 0 1 (15 : Int32)) 1 (15 : Int32).toNatClampNeg (p4 >>> ((0 : Int32) &&& 31)).toInt8.toInt32.toInt8.toInt32) 0 1 (16 : Int32)) 1 (16 : Int32).toNatClampNeg (p5 >>> ((24 : Int32) &&& 31)).toInt8.toInt32.toInt8.toInt32) 0 1 (17 : Int32)) 1 (17 : Int32).toNatClampNeg (p5 >>> ((16 : Int32) &&& 31)).toInt8.toInt32.toInt8.toInt32) 0 1 (18 : Int32)) 1 (18 : Int32).toNatClampNeg (p5 >>> ((8 : Int32) &&& 31)).toInt8.toInt32.toInt8.toInt32) 0 1 (19 : Int32)) 1 (19 : Int32).toNatClampNeg (p5 >>> ((0 : Int32) &&& 31)).toInt8.toInt32.toInt8.toInt32) 0 1 (20 : Int32)) (jv_u jx_L0 226 (0 : Int32).toNatClampNeg (20 : Int64)) (jx_R 227)) 227 1572950 _
  refine jv_Ev.steps jv_i351 2 (pc' := 2) (l' := [(0, .ref 178), (1, .int p1), (2, .int p2), (3, .int p3), (4, .int p4), (5, .int p5)]) (st' := [.ref 178, .ref 178]) rfl ?_
  refine jv_Ev.m jv_i351 (pc' := 5) (st' := [.int (0 : Int32), .ref 178]) rfl rfl (jv_m_getI rfl rfl rfl rfl) ?_
  refine jv_Ev.steps jv_i351 3 (pc' := 11) (l' := [(0, .ref 178), (1, .int p1), (2, .int p2), (3, .int p3), (4, .int p4), (5, .int p5)]) (st' := [.int (8192 : Int32), .int (20 : Int32), .ref 178]) rfl ?_
  refine jv_Ev.br jv_i351 (pc' := 18) (st' := [.ref 178]) rfl (jv_bc_le.trans (jx_got (by decide))) ?_
  refine jv_Ev.steps jv_i351 1 (pc' := 19) (l' := [(0, .ref 178), (1, .int p1), (2, .int p2), (3, .int p3), (4, .int p4), (5, .int p5)]) (st' := [.int (0 : Int32), .ref 178]) rfl ?_
  refine jv_Ev.m jv_i351 (pc' := 22) (st' := []) rfl rfl (jv_m_putI rfl rfl rfl rfl rfl) ?_
  refine jv_Ev.steps jv_i351 1 (pc' := 23) (l' := [(0, .ref 178), (1, .int p1), (2, .int p2), (3, .int p3), (4, .int p4), (5, .int p5)]) (st' := [.ref 178]) rfl ?_
  refine jv_Ev.m jv_i351 (pc' := 26) (st' := [.int (0 : Int32)]) rfl rfl (jv_m_getI rfl rfl rfl rfl) ?_
  refine jv_Ev.br jv_i351 (pc' := 31) (st' := []) rfl (jv_bi_le.trans (jx_got (by decide))) ?_
  refine jv_Ev.steps jv_i351 4 (pc' := 38) (l' := [(6, .int (0 : Int32)), (0, .ref 178), (1, .int p1), (2, .int p2), (3, .int p3), (4, .int p4), (5, .int p5)]) (st' := [.int (20 : Int32), .int (0 : Int32)]) rfl ?_
  refine jv_Ev.br jv_i351 (pc' := 41) (st' := []) rfl (jv_bc_ge.trans (jx_gof (by decide))) ?_
  refine jv_Ev.steps jv_i351 2 (pc' := 44) (l' := [(6, .int (0 : Int32)), (0, .ref 178), (1, .int p1), (2, .int p2), (3, .int p3), (4, .int p4), (5, .int p5)]) (st' := [.int (4 : Int32), .int (0 : Int32)]) rfl ?_
  refine jv_Ev.br jv_i351 (pc' := 47) (st' := []) rfl (jv_bc_ge.trans (jx_gof (by decide))) ?_
  refine jv_Ev.steps jv_i351 4 (pc' := 90) (l' := [(7, .int p1), (6, .int (0 : Int32)), (0, .ref 178), (1, .int p1), (2, .int p2), (3, .int p3), (4, .int p4), (5, .int p5)]) (st' := [.ref 178]) rfl ?_
  refine jv_Ev.m jv_i351 (pc' := 93) (st' := [.ref 179]) rfl rfl (jv_m_getR rfl rfl rfl rfl) ?_
  refine jv_Ev.steps jv_i351 1 (pc' := 94) (l' := [(7, .int p1), (6, .int (0 : Int32)), (0, .ref 178), (1, .int p1), (2, .int p2), (3, .int p3), (4, .int p4), (5, .int p5)]) (st' := [.ref 178, .ref 179]) rfl ?_
  refine jv_Ev.m jv_i351 (pc' := 97) (st' := [.int (0 : Int32), .ref 179]) rfl rfl (jv_m_getI rfl rfl rfl rfl) ?_
  refine jv_Ev.steps jv_i351 11 (pc' := 114) (l' := [(7, .int p1), (6, .int (0 : Int32)), (0, .ref 178), (1, .int p1), (2, .int p2), (3, .int p3), (4, .int p4), (5, .int p5)]) (st' := [.int ((p1 >>> ((24 : Int32) &&& 31)) &&& (255 : Int32)), .int (0 : Int32), .ref 179]) rfl ?_
  refine jv_Ev.m jv_i351 (pc' := 115) (st' := []) rfl rfl (jv_m_iast rfl (by decide)) ?_
  refine jv_Ev.steps jv_i351 2 (pc' := 117) (l' := [(7, .int p1), (6, .int (0 : Int32)), (0, .ref 178), (1, .int p1), (2, .int p2), (3, .int p3), (4, .int p4), (5, .int p5)]) (st' := [.ref 178, .ref 178]) rfl ?_
  refine jv_Ev.m jv_i351 (pc' := 120) (st' := [.int (0 : Int32), .ref 178]) rfl rfl (jv_m_getI rfl rfl rfl rfl) ?_
  refine jv_Ev.steps jv_i351 2 (pc' := 122) (l' := [(7, .int p1), (6, .int (0 : Int32)), (0, .ref 178), (1, .int p1), (2, .int p2), (3, .int p3), (4, .int p4), (5, .int p5)]) (st' := [.int (1 : Int32), .ref 178]) rfl ?_
  refine jv_Ev.m jv_i351 (pc' := 125) (st' := []) rfl rfl (jv_m_putI rfl rfl rfl rfl rfl) ?_
  refine jv_Ev.steps jv_i351 4 (pc' := 38) (l' := [(6, .int (1 : Int32)), (7, .int p1), (0, .ref 178), (1, .int p1), (2, .int p2), (3, .int p3), (4, .int p4), (5, .int p5)]) (st' := [.int (20 : Int32), .int (1 : Int32)]) rfl ?_
  refine jv_Ev.br jv_i351 (pc' := 41) (st' := []) rfl (jv_bc_ge.trans (jx_gof (by decide))) ?_
  refine jv_Ev.steps jv_i351 2 (pc' := 44) (l' := [(6, .int (1 : Int32)), (7, .int p1), (0, .ref 178), (1, .int p1), (2, .int p2), (3, .int p3), (4, .int p4), (5, .int p5)]) (st' := [.int (4 : Int32), .int (1 : Int32)]) rfl ?_
  refine jv_Ev.br jv_i351 (pc' := 47) (st' := []) rfl (jv_bc_ge.trans (jx_gof (by decide))) ?_
  refine jv_Ev.steps jv_i351 4 (pc' := 90) (l' := [(7, .int p1), (6, .int (1 : Int32)), (0, .ref 178), (1, .int p1), (2, .int p2), (3, .int p3), (4, .int p4), (5, .int p5)]) (st' := [.ref 178]) rfl ?_
  refine jv_Ev.m jv_i351 (pc' := 93) (st' := [.ref 179]) rfl rfl (jv_m_getR rfl rfl rfl rfl) ?_
  refine jv_Ev.steps jv_i351 1 (pc' := 94) (l' := [(7, .int p1), (6, .int (1 : Int32)), (0, .ref 178), (1, .int p1), (2, .int p2), (3, .int p3), (4, .int p4), (5, .int p5)]) (st' := [.ref 178, .ref 179]) rfl ?_
  refine jv_Ev.m jv_i351 (pc' := 97) (st' := [.int (1 : Int32), .ref 179]) rfl rfl (jv_m_getI rfl rfl rfl rfl) ?_
  refine jv_Ev.steps jv_i351 11 (pc' := 114) (l' := [(7, .int p1), (6, .int (1 : Int32)), (0, .ref 178), (1, .int p1), (2, .int p2), (3, .int p3), (4, .int p4), (5, .int p5)]) (st' := [.int ((p1 >>> ((16 : Int32) &&& 31)) &&& (255 : Int32)), .int (1 : Int32), .ref 179]) rfl ?_
  refine jv_Ev.m jv_i351 (pc' := 115) (st' := []) rfl rfl (jv_m_iast rfl (by decide)) ?_
  refine jv_Ev.steps jv_i351 2 (pc' := 117) (l' := [(7, .int p1), (6, .int (1 : Int32)), (0, .ref 178), (1, .int p1), (2, .int p2), (3, .int p3), (4, .int p4), (5, .int p5)]) (st' := [.ref 178, .ref 178]) rfl ?_
  refine jv_Ev.m jv_i351 (pc' := 120) (st' := [.int (1 : Int32), .ref 178]) rfl rfl (jv_m_getI rfl rfl rfl rfl) ?_
  refine jv_Ev.steps jv_i351 2 (pc' := 122) (l' := [(7, .int p1), (6, .int (1 : Int32)), (0, .ref 178), (1, .int p1), (2, .int p2), (3, .int p3), (4, .int p4), (5, .int p5)]) (st' := [.int (2 : Int32), .ref 178]) rfl ?_
  refine jv_Ev.m jv_i351 (pc' := 125) (st' := []) rfl rfl (jv_m_putI rfl rfl rfl rfl rfl) ?_
  refine jv_Ev.steps jv_i351 4 (pc' := 38) (l' := [(6, .int (2 : Int32)), (7, .int p1), (0, .ref 178), (1, .int p1), (2, .int p2), (3, .int p3), (4, .int p4), (5, .int p5)]) (st' := [.int (20 : Int32), .int (2 : Int32)]) rfl ?_
  refine jv_Ev.br jv_i351 (pc' := 41) (st' := []) rfl (jv_bc_ge.trans (jx_gof (by decide))) ?_
  refine jv_Ev.steps jv_i351 2 (pc' := 44) (l' := [(6, .int (2 : Int32)), (7, .int p1), (0, .ref 178), (1, .int p1), (2, .int p2), (3, .int p3), (4, .int p4), (5, .int p5)]) (st' := [.int (4 : Int32), .int (2 : Int32)]) rfl ?_
  refine jv_Ev.br jv_i351 (pc' := 47) (st' := []) rfl (jv_bc_ge.trans (jx_gof (by decide))) ?_
  refine jv_Ev.steps jv_i351 4 (pc' := 90) (l' := [(7, .int p1), (6, .int (2 : Int32)), (0, .ref 178), (1, .int p1), (2, .int p2), (3, .int p3), (4, .int p4), (5, .int p5)]) (st' := [.ref 178]) rfl ?_
  refine jv_Ev.m jv_i351 (pc' := 93) (st' := [.ref 179]) rfl rfl (jv_m_getR rfl rfl rfl rfl) ?_
  refine jv_Ev.steps jv_i351 1 (pc' := 94) (l' := [(7, .int p1), (6, .int (2 : Int32)), (0, .ref 178), (1, .int p1), (2, .int p2), (3, .int p3), (4, .int p4), (5, .int p5)]) (st' := [.ref 178, .ref 179]) rfl ?_
  refine jv_Ev.m jv_i351 (pc' := 97) (st' := [.int (2 : Int32), .ref 179]) rfl rfl (jv_m_getI rfl rfl rfl rfl) ?_
  refine jv_Ev.steps jv_i351 11 (pc' := 114) (l' := [(7, .int p1), (6, .int (2 : Int32)), (0, .ref 178), (1, .int p1), (2, .int p2), (3, .int p3), (4, .int p4), (5, .int p5)]) (st' := [.int ((p1 >>> ((8 : Int32) &&& 31)) &&& (255 : Int32)), .int (2 : Int32), .ref 179]) rfl ?_
  refine jv_Ev.m jv_i351 (pc' := 115) (st' := []) rfl rfl (jv_m_iast rfl (by decide)) ?_
  refine jv_Ev.steps jv_i351 2 (pc' := 117) (l' := [(7, .int p1), (6, .int (2 : Int32)), (0, .ref 178), (1, .int p1), (2, .int p2), (3, .int p3), (4, .int p4), (5, .int p5)]) (st' := [.ref 178, .ref 178]) rfl ?_
  refine jv_Ev.m jv_i351 (pc' := 120) (st' := [.int (2 : Int32), .ref 178]) rfl rfl (jv_m_getI rfl rfl rfl rfl) ?_
  refine jv_Ev.steps jv_i351 2 (pc' := 122) (l' := [(7, .int p1), (6, .int (2 : Int32)), (0, .ref 178), (1, .int p1), (2, .int p2), (3, .int p3), (4, .int p4), (5, .int p5)]) (st' := [.int (3 : Int32), .ref 178]) rfl ?_
  refine jv_Ev.m jv_i351 (pc' := 125) (st' := []) rfl rfl (jv_m_putI rfl rfl rfl rfl rfl) ?_
  refine jv_Ev.steps jv_i351 4 (pc' := 38) (l' := [(6, .int (3 : Int32)), (7, .int p1), (0, .ref 178), (1, .int p1), (2, .int p2), (3, .int p3), (4, .int p4), (5, .int p5)]) (st' := [.int (20 : Int32), .int (3 : Int32)]) rfl ?_
  refine jv_Ev.br jv_i351 (pc' := 41) (st' := []) rfl (jv_bc_ge.trans (jx_gof (by decide))) ?_
  refine jv_Ev.steps jv_i351 2 (pc' := 44) (l' := [(6, .int (3 : Int32)), (7, .int p1), (0, .ref 178), (1, .int p1), (2, .int p2), (3, .int p3), (4, .int p4), (5, .int p5)]) (st' := [.int (4 : Int32), .int (3 : Int32)]) rfl ?_
  refine jv_Ev.br jv_i351 (pc' := 47) (st' := []) rfl (jv_bc_ge.trans (jx_gof (by decide))) ?_
  refine jv_Ev.steps jv_i351 4 (pc' := 90) (l' := [(7, .int p1), (6, .int (3 : Int32)), (0, .ref 178), (1, .int p1), (2, .int p2), (3, .int p3), (4, .int p4), (5, .int p5)]) (st' := [.ref 178]) rfl ?_
  refine jv_Ev.m jv_i351 (pc' := 93) (st' := [.ref 179]) rfl rfl (jv_m_getR rfl rfl rfl rfl) ?_
  refine jv_Ev.steps jv_i351 1 (pc' := 94) (l' := [(7, .int p1), (6, .int (3 : Int32)), (0, .ref 178), (1, .int p1), (2, .int p2), (3, .int p3), (4, .int p4), (5, .int p5)]) (st' := [.ref 178, .ref 179]) rfl ?_
  refine jv_Ev.m jv_i351 (pc' := 97) (st' := [.int (3 : Int32), .ref 179]) rfl rfl (jv_m_getI rfl rfl rfl rfl) ?_
  refine jv_Ev.steps jv_i351 11 (pc' := 114) (l' := [(7, .int p1), (6, .int (3 : Int32)), (0, .ref 178), (1, .int p1), (2, .int p2), (3, .int p3), (4, .int p4), (5, .int p5)]) (st' := [.int ((p1 >>> ((0 : Int32) &&& 31)) &&& (255 : Int32)), .int (3 : Int32), .ref 179]) rfl ?_
  refine jv_Ev.m jv_i351 (pc' := 115) (st' := []) rfl rfl (jv_m_iast rfl (by decide)) ?_
  refine jv_Ev.steps jv_i351 2 (pc' := 117) (l' := [(7, .int p1), (6, .int (3 : Int32)), (0, .ref 178), (1, .int p1), (2, .int p2), (3, .int p3), (4, .int p4), (5, .int p5)]) (st' := [.ref 178, .ref 178]) rfl ?_
  refine jv_Ev.m jv_i351 (pc' := 120) (st' := [.int (3 : Int32), .ref 178]) rfl rfl (jv_m_getI rfl rfl rfl rfl) ?_
  refine jv_Ev.steps jv_i351 2 (pc' := 122) (l' := [(7, .int p1), (6, .int (3 : Int32)), (0, .ref 178), (1, .int p1), (2, .int p2), (3, .int p3), (4, .int p4), (5, .int p5)]) (st' := [.int (4 : Int32), .ref 178]) rfl ?_
  refine jv_Ev.m jv_i351 (pc' := 125) (st' := []) rfl rfl (jv_m_putI rfl rfl rfl rfl rfl) ?_
  refine jv_Ev.steps jv_i351 4 (pc' := 38) (l' := [(6, .int (4 : Int32)), (7, .int p1), (0, .ref 178), (1, .int p1), (2, .int p2), (3, .int p3), (4, .int p4), (5, .int p5)]) (st' := [.int (20 : Int32), .int (4 : Int32)]) rfl ?_
  refine jv_Ev.br jv_i351 (pc' := 41) (st' := []) rfl (jv_bc_ge.trans (jx_gof (by decide))) ?_
  refine jv_Ev.steps jv_i351 2 (pc' := 44) (l' := [(6, .int (4 : Int32)), (7, .int p1), (0, .ref 178), (1, .int p1), (2, .int p2), (3, .int p3), (4, .int p4), (5, .int p5)]) (st' := [.int (4 : Int32), .int (4 : Int32)]) rfl ?_
  refine jv_Ev.br jv_i351 (pc' := 51) (st' := []) rfl (jv_bc_ge.trans (jx_got (by decide))) ?_
  refine jv_Ev.steps jv_i351 2 (pc' := 55) (l' := [(6, .int (4 : Int32)), (7, .int p1), (0, .ref 178), (1, .int p1), (2, .int p2), (3, .int p3), (4, .int p4), (5, .int p5)]) (st' := [.int (8 : Int32), .int (4 : Int32)]) rfl ?_
  refine jv_Ev.br jv_i351 (pc' := 58) (st' := []) rfl (jv_bc_ge.trans (jx_gof (by decide))) ?_
  refine jv_Ev.steps jv_i351 4 (pc' := 90) (l' := [(7, .int p2), (6, .int (4 : Int32)), (0, .ref 178), (1, .int p1), (2, .int p2), (3, .int p3), (4, .int p4), (5, .int p5)]) (st' := [.ref 178]) rfl ?_
  refine jv_Ev.m jv_i351 (pc' := 93) (st' := [.ref 179]) rfl rfl (jv_m_getR rfl rfl rfl rfl) ?_
  refine jv_Ev.steps jv_i351 1 (pc' := 94) (l' := [(7, .int p2), (6, .int (4 : Int32)), (0, .ref 178), (1, .int p1), (2, .int p2), (3, .int p3), (4, .int p4), (5, .int p5)]) (st' := [.ref 178, .ref 179]) rfl ?_
  refine jv_Ev.m jv_i351 (pc' := 97) (st' := [.int (4 : Int32), .ref 179]) rfl rfl (jv_m_getI rfl rfl rfl rfl) ?_
  refine jv_Ev.steps jv_i351 11 (pc' := 114) (l' := [(7, .int p2), (6, .int (4 : Int32)), (0, .ref 178), (1, .int p1), (2, .int p2), (3, .int p3), (4, .int p4), (5, .int p5)]) (st' := [.int ((p2 >>> ((24 : Int32) &&& 31)) &&& (255 : Int32)), .int (4 : Int32), .ref 179]) rfl ?_
  refine jv_Ev.m jv_i351 (pc' := 115) (st' := []) rfl rfl (jv_m_iast rfl (by decide)) ?_
  refine jv_Ev.steps jv_i351 2 (pc' := 117) (l' := [(7, .int p2), (6, .int (4 : Int32)), (0, .ref 178), (1, .int p1), (2, .int p2), (3, .int p3), (4, .int p4), (5, .int p5)]) (st' := [.ref 178, .ref 178]) rfl ?_
  refine jv_Ev.m jv_i351 (pc' := 120) (st' := [.int (4 : Int32), .ref 178]) rfl rfl (jv_m_getI rfl rfl rfl rfl) ?_
  refine jv_Ev.steps jv_i351 2 (pc' := 122) (l' := [(7, .int p2), (6, .int (4 : Int32)), (0, .ref 178), (1, .int p1), (2, .int p2), (3, .int p3), (4, .int p4), (5, .int p5)]) (st' := [.int (5 : Int32), .ref 178]) rfl ?_
  refine jv_Ev.m jv_i351 (pc' := 125) (st' := []) rfl rfl (jv_m_putI rfl rfl rfl rfl rfl) ?_
  refine jv_Ev.steps jv_i351 4 (pc' := 38) (l' := [(6, .int (5 : Int32)), (7, .int p2), (0, .ref 178), (1, .int p1), (2, .int p2), (3, .int p3), (4, .int p4), (5, .int p5)]) (st' := [.int (20 : Int32), .int (5 : Int32)]) rfl ?_
  refine jv_Ev.br jv_i351 (pc' := 41) (st' := []) rfl (jv_bc_ge.trans (jx_gof (by decide))) ?_
  refine jv_Ev.steps jv_i351 2 (pc' := 44) (l' := [(6, .int (5 : Int32)), (7, .int p2), (0, .ref 178), (1, .int p1), (2, .int p2), (3, .int p3), (4, .int p4), (5, .int p5)]) (st' := [.int (4 : Int32), .int (5 : Int32)]) rfl ?_
  refine jv_Ev.br jv_i351 (pc' := 51) (st' := []) rfl (jv_bc_ge.trans (jx_got (by decide))) ?_
  refine jv_Ev.steps jv_i351 2 (pc' := 55) (l' := [(6, .int (5 : Int32)), (7, .int p2), (0, .ref 178), (1, .int p1), (2, .int p2), (3, .int p3), (4, .int p4), (5, .int p5)]) (st' := [.int (8 : Int32), .int (5 : Int32)]) rfl ?_
  refine jv_Ev.br jv_i351 (pc' := 58) (st' := []) rfl (jv_bc_ge.trans (jx_gof (by decide))) ?_
  refine jv_Ev.steps jv_i351 4 (pc' := 90) (l' := [(7, .int p2), (6, .int (5 : Int32)), (0, .ref 178), (1, .int p1), (2, .int p2), (3, .int p3), (4, .int p4), (5, .int p5)]) (st' := [.ref 178]) rfl ?_
  refine jv_Ev.m jv_i351 (pc' := 93) (st' := [.ref 179]) rfl rfl (jv_m_getR rfl rfl rfl rfl) ?_
  refine jv_Ev.steps jv_i351 1 (pc' := 94) (l' := [(7, .int p2), (6, .int (5 : Int32)), (0, .ref 178), (1, .int p1), (2, .int p2), (3, .int p3), (4, .int p4), (5, .int p5)]) (st' := [.ref 178, .ref 179]) rfl ?_
  refine jv_Ev.m jv_i351 (pc' := 97) (st' := [.int (5 : Int32), .ref 179]) rfl rfl (jv_m_getI rfl rfl rfl rfl) ?_
  refine jv_Ev.steps jv_i351 11 (pc' := 114) (l' := [(7, .int p2), (6, .int (5 : Int32)), (0, .ref 178), (1, .int p1), (2, .int p2), (3, .int p3), (4, .int p4), (5, .int p5)]) (st' := [.int ((p2 >>> ((16 : Int32) &&& 31)) &&& (255 : Int32)), .int (5 : Int32), .ref 179]) rfl ?_
  refine jv_Ev.m jv_i351 (pc' := 115) (st' := []) rfl rfl (jv_m_iast rfl (by decide)) ?_
  refine jv_Ev.steps jv_i351 2 (pc' := 117) (l' := [(7, .int p2), (6, .int (5 : Int32)), (0, .ref 178), (1, .int p1), (2, .int p2), (3, .int p3), (4, .int p4), (5, .int p5)]) (st' := [.ref 178, .ref 178]) rfl ?_
  refine jv_Ev.m jv_i351 (pc' := 120) (st' := [.int (5 : Int32), .ref 178]) rfl rfl (jv_m_getI rfl rfl rfl rfl) ?_
  refine jv_Ev.steps jv_i351 2 (pc' := 122) (l' := [(7, .int p2), (6, .int (5 : Int32)), (0, .ref 178), (1, .int p1), (2, .int p2), (3, .int p3), (4, .int p4), (5, .int p5)]) (st' := [.int (6 : Int32), .ref 178]) rfl ?_
  refine jv_Ev.m jv_i351 (pc' := 125) (st' := []) rfl rfl (jv_m_putI rfl rfl rfl rfl rfl) ?_
  refine jv_Ev.steps jv_i351 4 (pc' := 38) (l' := [(6, .int (6 : Int32)), (7, .int p2), (0, .ref 178), (1, .int p1), (2, .int p2), (3, .int p3), (4, .int p4), (5, .int p5)]) (st' := [.int (20 : Int32), .int (6 : Int32)]) rfl ?_
  refine jv_Ev.br jv_i351 (pc' := 41) (st' := []) rfl (jv_bc_ge.trans (jx_gof (by decide))) ?_
  refine jv_Ev.steps jv_i351 2 (pc' := 44) (l' := [(6, .int (6 : Int32)), (7, .int p2), (0, .ref 178), (1, .int p1), (2, .int p2), (3, .int p3), (4, .int p4), (5, .int p5)]) (st' := [.int (4 : Int32), .int (6 : Int32)]) rfl ?_
  refine jv_Ev.br jv_i351 (pc' := 51) (st' := []) rfl (jv_bc_ge.trans (jx_got (by decide))) ?_
  refine jv_Ev.steps jv_i351 2 (pc' := 55) (l' := [(6, .int (6 : Int32)), (7, .int p2), (0, .ref 178), (1, .int p1), (2, .int p2), (3, .int p3), (4, .int p4), (5, .int p5)]) (st' := [.int (8 : Int32), .int (6 : Int32)]) rfl ?_
  refine jv_Ev.br jv_i351 (pc' := 58) (st' := []) rfl (jv_bc_ge.trans (jx_gof (by decide))) ?_
  refine jv_Ev.steps jv_i351 4 (pc' := 90) (l' := [(7, .int p2), (6, .int (6 : Int32)), (0, .ref 178), (1, .int p1), (2, .int p2), (3, .int p3), (4, .int p4), (5, .int p5)]) (st' := [.ref 178]) rfl ?_
  refine jv_Ev.m jv_i351 (pc' := 93) (st' := [.ref 179]) rfl rfl (jv_m_getR rfl rfl rfl rfl) ?_
  refine jv_Ev.steps jv_i351 1 (pc' := 94) (l' := [(7, .int p2), (6, .int (6 : Int32)), (0, .ref 178), (1, .int p1), (2, .int p2), (3, .int p3), (4, .int p4), (5, .int p5)]) (st' := [.ref 178, .ref 179]) rfl ?_
  refine jv_Ev.m jv_i351 (pc' := 97) (st' := [.int (6 : Int32), .ref 179]) rfl rfl (jv_m_getI rfl rfl rfl rfl) ?_
  refine jv_Ev.steps jv_i351 11 (pc' := 114) (l' := [(7, .int p2), (6, .int (6 : Int32)), (0, .ref 178), (1, .int p1), (2, .int p2), (3, .int p3), (4, .int p4), (5, .int p5)]) (st' := [.int ((p2 >>> ((8 : Int32) &&& 31)) &&& (255 : Int32)), .int (6 : Int32), .ref 179]) rfl ?_
  refine jv_Ev.m jv_i351 (pc' := 115) (st' := []) rfl rfl (jv_m_iast rfl (by decide)) ?_
  refine jv_Ev.steps jv_i351 2 (pc' := 117) (l' := [(7, .int p2), (6, .int (6 : Int32)), (0, .ref 178), (1, .int p1), (2, .int p2), (3, .int p3), (4, .int p4), (5, .int p5)]) (st' := [.ref 178, .ref 178]) rfl ?_
  refine jv_Ev.m jv_i351 (pc' := 120) (st' := [.int (6 : Int32), .ref 178]) rfl rfl (jv_m_getI rfl rfl rfl rfl) ?_
  refine jv_Ev.steps jv_i351 2 (pc' := 122) (l' := [(7, .int p2), (6, .int (6 : Int32)), (0, .ref 178), (1, .int p1), (2, .int p2), (3, .int p3), (4, .int p4), (5, .int p5)]) (st' := [.int (7 : Int32), .ref 178]) rfl ?_
  refine jv_Ev.m jv_i351 (pc' := 125) (st' := []) rfl rfl (jv_m_putI rfl rfl rfl rfl rfl) ?_
  refine jv_Ev.steps jv_i351 4 (pc' := 38) (l' := [(6, .int (7 : Int32)), (7, .int p2), (0, .ref 178), (1, .int p1), (2, .int p2), (3, .int p3), (4, .int p4), (5, .int p5)]) (st' := [.int (20 : Int32), .int (7 : Int32)]) rfl ?_
  refine jv_Ev.br jv_i351 (pc' := 41) (st' := []) rfl (jv_bc_ge.trans (jx_gof (by decide))) ?_
  refine jv_Ev.steps jv_i351 2 (pc' := 44) (l' := [(6, .int (7 : Int32)), (7, .int p2), (0, .ref 178), (1, .int p1), (2, .int p2), (3, .int p3), (4, .int p4), (5, .int p5)]) (st' := [.int (4 : Int32), .int (7 : Int32)]) rfl ?_
  refine jv_Ev.br jv_i351 (pc' := 51) (st' := []) rfl (jv_bc_ge.trans (jx_got (by decide))) ?_
  refine jv_Ev.steps jv_i351 2 (pc' := 55) (l' := [(6, .int (7 : Int32)), (7, .int p2), (0, .ref 178), (1, .int p1), (2, .int p2), (3, .int p3), (4, .int p4), (5, .int p5)]) (st' := [.int (8 : Int32), .int (7 : Int32)]) rfl ?_
  refine jv_Ev.br jv_i351 (pc' := 58) (st' := []) rfl (jv_bc_ge.trans (jx_gof (by decide))) ?_
  refine jv_Ev.steps jv_i351 4 (pc' := 90) (l' := [(7, .int p2), (6, .int (7 : Int32)), (0, .ref 178), (1, .int p1), (2, .int p2), (3, .int p3), (4, .int p4), (5, .int p5)]) (st' := [.ref 178]) rfl ?_
  refine jv_Ev.m jv_i351 (pc' := 93) (st' := [.ref 179]) rfl rfl (jv_m_getR rfl rfl rfl rfl) ?_
  refine jv_Ev.steps jv_i351 1 (pc' := 94) (l' := [(7, .int p2), (6, .int (7 : Int32)), (0, .ref 178), (1, .int p1), (2, .int p2), (3, .int p3), (4, .int p4), (5, .int p5)]) (st' := [.ref 178, .ref 179]) rfl ?_
  refine jv_Ev.m jv_i351 (pc' := 97) (st' := [.int (7 : Int32), .ref 179]) rfl rfl (jv_m_getI rfl rfl rfl rfl) ?_
  refine jv_Ev.steps jv_i351 11 (pc' := 114) (l' := [(7, .int p2), (6, .int (7 : Int32)), (0, .ref 178), (1, .int p1), (2, .int p2), (3, .int p3), (4, .int p4), (5, .int p5)]) (st' := [.int ((p2 >>> ((0 : Int32) &&& 31)) &&& (255 : Int32)), .int (7 : Int32), .ref 179]) rfl ?_
  refine jv_Ev.m jv_i351 (pc' := 115) (st' := []) rfl rfl (jv_m_iast rfl (by decide)) ?_
  refine jv_Ev.steps jv_i351 2 (pc' := 117) (l' := [(7, .int p2), (6, .int (7 : Int32)), (0, .ref 178), (1, .int p1), (2, .int p2), (3, .int p3), (4, .int p4), (5, .int p5)]) (st' := [.ref 178, .ref 178]) rfl ?_
  refine jv_Ev.m jv_i351 (pc' := 120) (st' := [.int (7 : Int32), .ref 178]) rfl rfl (jv_m_getI rfl rfl rfl rfl) ?_
  refine jv_Ev.steps jv_i351 2 (pc' := 122) (l' := [(7, .int p2), (6, .int (7 : Int32)), (0, .ref 178), (1, .int p1), (2, .int p2), (3, .int p3), (4, .int p4), (5, .int p5)]) (st' := [.int (8 : Int32), .ref 178]) rfl ?_
  refine jv_Ev.m jv_i351 (pc' := 125) (st' := []) rfl rfl (jv_m_putI rfl rfl rfl rfl rfl) ?_
  refine jv_Ev.steps jv_i351 4 (pc' := 38) (l' := [(6, .int (8 : Int32)), (7, .int p2), (0, .ref 178), (1, .int p1), (2, .int p2), (3, .int p3), (4, .int p4), (5, .int p5)]) (st' := [.int (20 : Int32), .int (8 : Int32)]) rfl ?_
  refine jv_Ev.br jv_i351 (pc' := 41) (st' := []) rfl (jv_bc_ge.trans (jx_gof (by decide))) ?_
  refine jv_Ev.steps jv_i351 2 (pc' := 44) (l' := [(6, .int (8 : Int32)), (7, .int p2), (0, .ref 178), (1, .int p1), (2, .int p2), (3, .int p3), (4, .int p4), (5, .int p5)]) (st' := [.int (4 : Int32), .int (8 : Int32)]) rfl ?_
  refine jv_Ev.br jv_i351 (pc' := 51) (st' := []) rfl (jv_bc_ge.trans (jx_got (by decide))) ?_
  refine jv_Ev.steps jv_i351 2 (pc' := 55) (l' := [(6, .int (8 : Int32)), (7, .int p2), (0, .ref 178), (1, .int p1), (2, .int p2), (3, .int p3), (4, .int p4), (5, .int p5)]) (st' := [.int (8 : Int32), .int (8 : Int32)]) rfl ?_
  refine jv_Ev.br jv_i351 (pc' := 62) (st' := []) rfl (jv_bc_ge.trans (jx_got (by decide))) ?_
  refine jv_Ev.steps jv_i351 2 (pc' := 66) (l' := [(6, .int (8 : Int32)), (7, .int p2), (0, .ref 178), (1, .int p1), (2, .int p2), (3, .int p3), (4, .int p4), (5, .int p5)]) (st' := [.int (12 : Int32), .int (8 : Int32)]) rfl ?_
  refine jv_Ev.br jv_i351 (pc' := 69) (st' := []) rfl (jv_bc_ge.trans (jx_gof (by decide))) ?_
  refine jv_Ev.steps jv_i351 4 (pc' := 90) (l' := [(7, .int p3), (6, .int (8 : Int32)), (0, .ref 178), (1, .int p1), (2, .int p2), (3, .int p3), (4, .int p4), (5, .int p5)]) (st' := [.ref 178]) rfl ?_
  refine jv_Ev.m jv_i351 (pc' := 93) (st' := [.ref 179]) rfl rfl (jv_m_getR rfl rfl rfl rfl) ?_
  refine jv_Ev.steps jv_i351 1 (pc' := 94) (l' := [(7, .int p3), (6, .int (8 : Int32)), (0, .ref 178), (1, .int p1), (2, .int p2), (3, .int p3), (4, .int p4), (5, .int p5)]) (st' := [.ref 178, .ref 179]) rfl ?_
  refine jv_Ev.m jv_i351 (pc' := 97) (st' := [.int (8 : Int32), .ref 179]) rfl rfl (jv_m_getI rfl rfl rfl rfl) ?_
  refine jv_Ev.steps jv_i351 11 (pc' := 114) (l' := [(7, .int p3), (6, .int (8 : Int32)), (0, .ref 178), (1, .int p1), (2, .int p2), (3, .int p3), (4, .int p4), (5, .int p5)]) (st' := [.int ((p3 >>> ((24 : Int32) &&& 31)) &&& (255 : Int32)), .int (8 : Int32), .ref 179]) rfl ?_
  refine jv_Ev.m jv_i351 (pc' := 115) (st' := []) rfl rfl (jv_m_iast rfl (by decide)) ?_
  refine jv_Ev.steps jv_i351 2 (pc' := 117) (l' := [(7, .int p3), (6, .int (8 : Int32)), (0, .ref 178), (1, .int p1), (2, .int p2), (3, .int p3), (4, .int p4), (5, .int p5)]) (st' := [.ref 178, .ref 178]) rfl ?_
  refine jv_Ev.m jv_i351 (pc' := 120) (st' := [.int (8 : Int32), .ref 178]) rfl rfl (jv_m_getI rfl rfl rfl rfl) ?_
  refine jv_Ev.steps jv_i351 2 (pc' := 122) (l' := [(7, .int p3), (6, .int (8 : Int32)), (0, .ref 178), (1, .int p1), (2, .int p2), (3, .int p3), (4, .int p4), (5, .int p5)]) (st' := [.int (9 : Int32), .ref 178]) rfl ?_
  refine jv_Ev.m jv_i351 (pc' := 125) (st' := []) rfl rfl (jv_m_putI rfl rfl rfl rfl rfl) ?_
  refine jv_Ev.steps jv_i351 4 (pc' := 38) (l' := [(6, .int (9 : Int32)), (7, .int p3), (0, .ref 178), (1, .int p1), (2, .int p2), (3, .int p3), (4, .int p4), (5, .int p5)]) (st' := [.int (20 : Int32), .int (9 : Int32)]) rfl ?_
  refine jv_Ev.br jv_i351 (pc' := 41) (st' := []) rfl (jv_bc_ge.trans (jx_gof (by decide))) ?_
  refine jv_Ev.steps jv_i351 2 (pc' := 44) (l' := [(6, .int (9 : Int32)), (7, .int p3), (0, .ref 178), (1, .int p1), (2, .int p2), (3, .int p3), (4, .int p4), (5, .int p5)]) (st' := [.int (4 : Int32), .int (9 : Int32)]) rfl ?_
  refine jv_Ev.br jv_i351 (pc' := 51) (st' := []) rfl (jv_bc_ge.trans (jx_got (by decide))) ?_
  refine jv_Ev.steps jv_i351 2 (pc' := 55) (l' := [(6, .int (9 : Int32)), (7, .int p3), (0, .ref 178), (1, .int p1), (2, .int p2), (3, .int p3), (4, .int p4), (5, .int p5)]) (st' := [.int (8 : Int32), .int (9 : Int32)]) rfl ?_
  refine jv_Ev.br jv_i351 (pc' := 62) (st' := []) rfl (jv_bc_ge.trans (jx_got (by decide))) ?_
  refine jv_Ev.steps jv_i351 2 (pc' := 66) (l' := [(6, .int (9 : Int32)), (7, .int p3), (0, .ref 178), (1, .int p1), (2, .int p2), (3, .int p3), (4, .int p4), (5, .int p5)]) (st' := [.int (12 : Int32), .int (9 : Int32)]) rfl ?_
  refine jv_Ev.br jv_i351 (pc' := 69) (st' := []) rfl (jv_bc_ge.trans (jx_gof (by decide))) ?_
  refine jv_Ev.steps jv_i351 4 (pc' := 90) (l' := [(7, .int p3), (6, .int (9 : Int32)), (0, .ref 178), (1, .int p1), (2, .int p2), (3, .int p3), (4, .int p4), (5, .int p5)]) (st' := [.ref 178]) rfl ?_
  refine jv_Ev.m jv_i351 (pc' := 93) (st' := [.ref 179]) rfl rfl (jv_m_getR rfl rfl rfl rfl) ?_
  refine jv_Ev.steps jv_i351 1 (pc' := 94) (l' := [(7, .int p3), (6, .int (9 : Int32)), (0, .ref 178), (1, .int p1), (2, .int p2), (3, .int p3), (4, .int p4), (5, .int p5)]) (st' := [.ref 178, .ref 179]) rfl ?_
  refine jv_Ev.m jv_i351 (pc' := 97) (st' := [.int (9 : Int32), .ref 179]) rfl rfl (jv_m_getI rfl rfl rfl rfl) ?_
  refine jv_Ev.steps jv_i351 11 (pc' := 114) (l' := [(7, .int p3), (6, .int (9 : Int32)), (0, .ref 178), (1, .int p1), (2, .int p2), (3, .int p3), (4, .int p4), (5, .int p5)]) (st' := [.int ((p3 >>> ((16 : Int32) &&& 31)) &&& (255 : Int32)), .int (9 : Int32), .ref 179]) rfl ?_
  refine jv_Ev.m jv_i351 (pc' := 115) (st' := []) rfl rfl (jv_m_iast rfl (by decide)) ?_
  refine jv_Ev.steps jv_i351 2 (pc' := 117) (l' := [(7, .int p3), (6, .int (9 : Int32)), (0, .ref 178), (1, .int p1), (2, .int p2), (3, .int p3), (4, .int p4), (5, .int p5)]) (st' := [.ref 178, .ref 178]) rfl ?_
  refine jv_Ev.m jv_i351 (pc' := 120) (st' := [.int (9 : Int32), .ref 178]) rfl rfl (jv_m_getI rfl rfl rfl rfl) ?_
  refine jv_Ev.steps jv_i351 2 (pc' := 122) (l' := [(7, .int p3), (6, .int (9 : Int32)), (0, .ref 178), (1, .int p1), (2, .int p2), (3, .int p3), (4, .int p4), (5, .int p5)]) (st' := [.int (10 : Int32), .ref 178]) rfl ?_
  refine jv_Ev.m jv_i351 (pc' := 125) (st' := []) rfl rfl (jv_m_putI rfl rfl rfl rfl rfl) ?_
  refine jv_Ev.steps jv_i351 4 (pc' := 38) (l' := [(6, .int (10 : Int32)), (7, .int p3), (0, .ref 178), (1, .int p1), (2, .int p2), (3, .int p3), (4, .int p4), (5, .int p5)]) (st' := [.int (20 : Int32), .int (10 : Int32)]) rfl ?_
  refine jv_Ev.br jv_i351 (pc' := 41) (st' := []) rfl (jv_bc_ge.trans (jx_gof (by decide))) ?_
  refine jv_Ev.steps jv_i351 2 (pc' := 44) (l' := [(6, .int (10 : Int32)), (7, .int p3), (0, .ref 178), (1, .int p1), (2, .int p2), (3, .int p3), (4, .int p4), (5, .int p5)]) (st' := [.int (4 : Int32), .int (10 : Int32)]) rfl ?_
  refine jv_Ev.br jv_i351 (pc' := 51) (st' := []) rfl (jv_bc_ge.trans (jx_got (by decide))) ?_
  refine jv_Ev.steps jv_i351 2 (pc' := 55) (l' := [(6, .int (10 : Int32)), (7, .int p3), (0, .ref 178), (1, .int p1), (2, .int p2), (3, .int p3), (4, .int p4), (5, .int p5)]) (st' := [.int (8 : Int32), .int (10 : Int32)]) rfl ?_
  refine jv_Ev.br jv_i351 (pc' := 62) (st' := []) rfl (jv_bc_ge.trans (jx_got (by decide))) ?_
  refine jv_Ev.steps jv_i351 2 (pc' := 66) (l' := [(6, .int (10 : Int32)), (7, .int p3), (0, .ref 178), (1, .int p1), (2, .int p2), (3, .int p3), (4, .int p4), (5, .int p5)]) (st' := [.int (12 : Int32), .int (10 : Int32)]) rfl ?_
  refine jv_Ev.br jv_i351 (pc' := 69) (st' := []) rfl (jv_bc_ge.trans (jx_gof (by decide))) ?_
  refine jv_Ev.steps jv_i351 4 (pc' := 90) (l' := [(7, .int p3), (6, .int (10 : Int32)), (0, .ref 178), (1, .int p1), (2, .int p2), (3, .int p3), (4, .int p4), (5, .int p5)]) (st' := [.ref 178]) rfl ?_
  refine jv_Ev.m jv_i351 (pc' := 93) (st' := [.ref 179]) rfl rfl (jv_m_getR rfl rfl rfl rfl) ?_
  refine jv_Ev.steps jv_i351 1 (pc' := 94) (l' := [(7, .int p3), (6, .int (10 : Int32)), (0, .ref 178), (1, .int p1), (2, .int p2), (3, .int p3), (4, .int p4), (5, .int p5)]) (st' := [.ref 178, .ref 179]) rfl ?_
  refine jv_Ev.m jv_i351 (pc' := 97) (st' := [.int (10 : Int32), .ref 179]) rfl rfl (jv_m_getI rfl rfl rfl rfl) ?_
  refine jv_Ev.steps jv_i351 11 (pc' := 114) (l' := [(7, .int p3), (6, .int (10 : Int32)), (0, .ref 178), (1, .int p1), (2, .int p2), (3, .int p3), (4, .int p4), (5, .int p5)]) (st' := [.int ((p3 >>> ((8 : Int32) &&& 31)) &&& (255 : Int32)), .int (10 : Int32), .ref 179]) rfl ?_
  refine jv_Ev.m jv_i351 (pc' := 115) (st' := []) rfl rfl (jv_m_iast rfl (by decide)) ?_
  refine jv_Ev.steps jv_i351 2 (pc' := 117) (l' := [(7, .int p3), (6, .int (10 : Int32)), (0, .ref 178), (1, .int p1), (2, .int p2), (3, .int p3), (4, .int p4), (5, .int p5)]) (st' := [.ref 178, .ref 178]) rfl ?_
  refine jv_Ev.m jv_i351 (pc' := 120) (st' := [.int (10 : Int32), .ref 178]) rfl rfl (jv_m_getI rfl rfl rfl rfl) ?_
  refine jv_Ev.steps jv_i351 2 (pc' := 122) (l' := [(7, .int p3), (6, .int (10 : Int32)), (0, .ref 178), (1, .int p1), (2, .int p2), (3, .int p3), (4, .int p4), (5, .int p5)]) (st' := [.int (11 : Int32), .ref 178]) rfl ?_
  refine jv_Ev.m jv_i351 (pc' := 125) (st' := []) rfl rfl (jv_m_putI rfl rfl rfl rfl rfl) ?_
  refine jv_Ev.steps jv_i351 4 (pc' := 38) (l' := [(6, .int (11 : Int32)), (7, .int p3), (0, .ref 178), (1, .int p1), (2, .int p2), (3, .int p3), (4, .int p4), (5, .int p5)]) (st' := [.int (20 : Int32), .int (11 : Int32)]) rfl ?_
  refine jv_Ev.br jv_i351 (pc' := 41) (st' := []) rfl (jv_bc_ge.trans (jx_gof (by decide))) ?_
  refine jv_Ev.steps jv_i351 2 (pc' := 44) (l' := [(6, .int (11 : Int32)), (7, .int p3), (0, .ref 178), (1, .int p1), (2, .int p2), (3, .int p3), (4, .int p4), (5, .int p5)]) (st' := [.int (4 : Int32), .int (11 : Int32)]) rfl ?_
  refine jv_Ev.br jv_i351 (pc' := 51) (st' := []) rfl (jv_bc_ge.trans (jx_got (by decide))) ?_
  refine jv_Ev.steps jv_i351 2 (pc' := 55) (l' := [(6, .int (11 : Int32)), (7, .int p3), (0, .ref 178), (1, .int p1), (2, .int p2), (3, .int p3), (4, .int p4), (5, .int p5)]) (st' := [.int (8 : Int32), .int (11 : Int32)]) rfl ?_
  refine jv_Ev.br jv_i351 (pc' := 62) (st' := []) rfl (jv_bc_ge.trans (jx_got (by decide))) ?_
  refine jv_Ev.steps jv_i351 2 (pc' := 66) (l' := [(6, .int (11 : Int32)), (7, .int p3), (0, .ref 178), (1, .int p1), (2, .int p2), (3, .int p3), (4, .int p4), (5, .int p5)]) (st' := [.int (12 : Int32), .int (11 : Int32)]) rfl ?_
  refine jv_Ev.br jv_i351 (pc' := 69) (st' := []) rfl (jv_bc_ge.trans (jx_gof (by decide))) ?_
  refine jv_Ev.steps jv_i351 4 (pc' := 90) (l' := [(7, .int p3), (6, .int (11 : Int32)), (0, .ref 178), (1, .int p1), (2, .int p2), (3, .int p3), (4, .int p4), (5, .int p5)]) (st' := [.ref 178]) rfl ?_
  refine jv_Ev.m jv_i351 (pc' := 93) (st' := [.ref 179]) rfl rfl (jv_m_getR rfl rfl rfl rfl) ?_
  refine jv_Ev.steps jv_i351 1 (pc' := 94) (l' := [(7, .int p3), (6, .int (11 : Int32)), (0, .ref 178), (1, .int p1), (2, .int p2), (3, .int p3), (4, .int p4), (5, .int p5)]) (st' := [.ref 178, .ref 179]) rfl ?_
  refine jv_Ev.m jv_i351 (pc' := 97) (st' := [.int (11 : Int32), .ref 179]) rfl rfl (jv_m_getI rfl rfl rfl rfl) ?_
  refine jv_Ev.steps jv_i351 11 (pc' := 114) (l' := [(7, .int p3), (6, .int (11 : Int32)), (0, .ref 178), (1, .int p1), (2, .int p2), (3, .int p3), (4, .int p4), (5, .int p5)]) (st' := [.int ((p3 >>> ((0 : Int32) &&& 31)) &&& (255 : Int32)), .int (11 : Int32), .ref 179]) rfl ?_
  refine jv_Ev.m jv_i351 (pc' := 115) (st' := []) rfl rfl (jv_m_iast rfl (by decide)) ?_
  refine jv_Ev.steps jv_i351 2 (pc' := 117) (l' := [(7, .int p3), (6, .int (11 : Int32)), (0, .ref 178), (1, .int p1), (2, .int p2), (3, .int p3), (4, .int p4), (5, .int p5)]) (st' := [.ref 178, .ref 178]) rfl ?_
  refine jv_Ev.m jv_i351 (pc' := 120) (st' := [.int (11 : Int32), .ref 178]) rfl rfl (jv_m_getI rfl rfl rfl rfl) ?_
  refine jv_Ev.steps jv_i351 2 (pc' := 122) (l' := [(7, .int p3), (6, .int (11 : Int32)), (0, .ref 178), (1, .int p1), (2, .int p2), (3, .int p3), (4, .int p4), (5, .int p5)]) (st' := [.int (12 : Int32), .ref 178]) rfl ?_
  refine jv_Ev.m jv_i351 (pc' := 125) (st' := []) rfl rfl (jv_m_putI rfl rfl rfl rfl rfl) ?_
  refine jv_Ev.steps jv_i351 4 (pc' := 38) (l' := [(6, .int (12 : Int32)), (7, .int p3), (0, .ref 178), (1, .int p1), (2, .int p2), (3, .int p3), (4, .int p4), (5, .int p5)]) (st' := [.int (20 : Int32), .int (12 : Int32)]) rfl ?_
  refine jv_Ev.br jv_i351 (pc' := 41) (st' := []) rfl (jv_bc_ge.trans (jx_gof (by decide))) ?_
  refine jv_Ev.steps jv_i351 2 (pc' := 44) (l' := [(6, .int (12 : Int32)), (7, .int p3), (0, .ref 178), (1, .int p1), (2, .int p2), (3, .int p3), (4, .int p4), (5, .int p5)]) (st' := [.int (4 : Int32), .int (12 : Int32)]) rfl ?_
  refine jv_Ev.br jv_i351 (pc' := 51) (st' := []) rfl (jv_bc_ge.trans (jx_got (by decide))) ?_
  refine jv_Ev.steps jv_i351 2 (pc' := 55) (l' := [(6, .int (12 : Int32)), (7, .int p3), (0, .ref 178), (1, .int p1), (2, .int p2), (3, .int p3), (4, .int p4), (5, .int p5)]) (st' := [.int (8 : Int32), .int (12 : Int32)]) rfl ?_
  refine jv_Ev.br jv_i351 (pc' := 62) (st' := []) rfl (jv_bc_ge.trans (jx_got (by decide))) ?_
  refine jv_Ev.steps jv_i351 2 (pc' := 66) (l' := [(6, .int (12 : Int32)), (7, .int p3), (0, .ref 178), (1, .int p1), (2, .int p2), (3, .int p3), (4, .int p4), (5, .int p5)]) (st' := [.int (12 : Int32), .int (12 : Int32)]) rfl ?_
  refine jv_Ev.br jv_i351 (pc' := 73) (st' := []) rfl (jv_bc_ge.trans (jx_got (by decide))) ?_
  refine jv_Ev.steps jv_i351 2 (pc' := 77) (l' := [(6, .int (12 : Int32)), (7, .int p3), (0, .ref 178), (1, .int p1), (2, .int p2), (3, .int p3), (4, .int p4), (5, .int p5)]) (st' := [.int (16 : Int32), .int (12 : Int32)]) rfl ?_
  refine jv_Ev.br jv_i351 (pc' := 80) (st' := []) rfl (jv_bc_ge.trans (jx_gof (by decide))) ?_
  refine jv_Ev.steps jv_i351 4 (pc' := 90) (l' := [(7, .int p4), (6, .int (12 : Int32)), (0, .ref 178), (1, .int p1), (2, .int p2), (3, .int p3), (4, .int p4), (5, .int p5)]) (st' := [.ref 178]) rfl ?_
  refine jv_Ev.m jv_i351 (pc' := 93) (st' := [.ref 179]) rfl rfl (jv_m_getR rfl rfl rfl rfl) ?_
  refine jv_Ev.steps jv_i351 1 (pc' := 94) (l' := [(7, .int p4), (6, .int (12 : Int32)), (0, .ref 178), (1, .int p1), (2, .int p2), (3, .int p3), (4, .int p4), (5, .int p5)]) (st' := [.ref 178, .ref 179]) rfl ?_
  refine jv_Ev.m jv_i351 (pc' := 97) (st' := [.int (12 : Int32), .ref 179]) rfl rfl (jv_m_getI rfl rfl rfl rfl) ?_
  refine jv_Ev.steps jv_i351 11 (pc' := 114) (l' := [(7, .int p4), (6, .int (12 : Int32)), (0, .ref 178), (1, .int p1), (2, .int p2), (3, .int p3), (4, .int p4), (5, .int p5)]) (st' := [.int ((p4 >>> ((24 : Int32) &&& 31)) &&& (255 : Int32)), .int (12 : Int32), .ref 179]) rfl ?_
  refine jv_Ev.m jv_i351 (pc' := 115) (st' := []) rfl rfl (jv_m_iast rfl (by decide)) ?_
  refine jv_Ev.steps jv_i351 2 (pc' := 117) (l' := [(7, .int p4), (6, .int (12 : Int32)), (0, .ref 178), (1, .int p1), (2, .int p2), (3, .int p3), (4, .int p4), (5, .int p5)]) (st' := [.ref 178, .ref 178]) rfl ?_
  refine jv_Ev.m jv_i351 (pc' := 120) (st' := [.int (12 : Int32), .ref 178]) rfl rfl (jv_m_getI rfl rfl rfl rfl) ?_
  refine jv_Ev.steps jv_i351 2 (pc' := 122) (l' := [(7, .int p4), (6, .int (12 : Int32)), (0, .ref 178), (1, .int p1), (2, .int p2), (3, .int p3), (4, .int p4), (5, .int p5)]) (st' := [.int (13 : Int32), .ref 178]) rfl ?_
  refine jv_Ev.m jv_i351 (pc' := 125) (st' := []) rfl rfl (jv_m_putI rfl rfl rfl rfl rfl) ?_
  refine jv_Ev.steps jv_i351 4 (pc' := 38) (l' := [(6, .int (13 : Int32)), (7, .int p4), (0, .ref 178), (1, .int p1), (2, .int p2), (3, .int p3), (4, .int p4), (5, .int p5)]) (st' := [.int (20 : Int32), .int (13 : Int32)]) rfl ?_
  refine jv_Ev.br jv_i351 (pc' := 41) (st' := []) rfl (jv_bc_ge.trans (jx_gof (by decide))) ?_
  refine jv_Ev.steps jv_i351 2 (pc' := 44) (l' := [(6, .int (13 : Int32)), (7, .int p4), (0, .ref 178), (1, .int p1), (2, .int p2), (3, .int p3), (4, .int p4), (5, .int p5)]) (st' := [.int (4 : Int32), .int (13 : Int32)]) rfl ?_
  refine jv_Ev.br jv_i351 (pc' := 51) (st' := []) rfl (jv_bc_ge.trans (jx_got (by decide))) ?_
  refine jv_Ev.steps jv_i351 2 (pc' := 55) (l' := [(6, .int (13 : Int32)), (7, .int p4), (0, .ref 178), (1, .int p1), (2, .int p2), (3, .int p3), (4, .int p4), (5, .int p5)]) (st' := [.int (8 : Int32), .int (13 : Int32)]) rfl ?_
  refine jv_Ev.br jv_i351 (pc' := 62) (st' := []) rfl (jv_bc_ge.trans (jx_got (by decide))) ?_
  refine jv_Ev.steps jv_i351 2 (pc' := 66) (l' := [(6, .int (13 : Int32)), (7, .int p4), (0, .ref 178), (1, .int p1), (2, .int p2), (3, .int p3), (4, .int p4), (5, .int p5)]) (st' := [.int (12 : Int32), .int (13 : Int32)]) rfl ?_
  refine jv_Ev.br jv_i351 (pc' := 73) (st' := []) rfl (jv_bc_ge.trans (jx_got (by decide))) ?_
  refine jv_Ev.steps jv_i351 2 (pc' := 77) (l' := [(6, .int (13 : Int32)), (7, .int p4), (0, .ref 178), (1, .int p1), (2, .int p2), (3, .int p3), (4, .int p4), (5, .int p5)]) (st' := [.int (16 : Int32), .int (13 : Int32)]) rfl ?_
  refine jv_Ev.br jv_i351 (pc' := 80) (st' := []) rfl (jv_bc_ge.trans (jx_gof (by decide))) ?_
  refine jv_Ev.steps jv_i351 4 (pc' := 90) (l' := [(7, .int p4), (6, .int (13 : Int32)), (0, .ref 178), (1, .int p1), (2, .int p2), (3, .int p3), (4, .int p4), (5, .int p5)]) (st' := [.ref 178]) rfl ?_
  refine jv_Ev.m jv_i351 (pc' := 93) (st' := [.ref 179]) rfl rfl (jv_m_getR rfl rfl rfl rfl) ?_
  refine jv_Ev.steps jv_i351 1 (pc' := 94) (l' := [(7, .int p4), (6, .int (13 : Int32)), (0, .ref 178), (1, .int p1), (2, .int p2), (3, .int p3), (4, .int p4), (5, .int p5)]) (st' := [.ref 178, .ref 179]) rfl ?_
  refine jv_Ev.m jv_i351 (pc' := 97) (st' := [.int (13 : Int32), .ref 179]) rfl rfl (jv_m_getI rfl rfl rfl rfl) ?_
  refine jv_Ev.steps jv_i351 11 (pc' := 114) (l' := [(7, .int p4), (6, .int (13 : Int32)), (0, .ref 178), (1, .int p1), (2, .int p2), (3, .int p3), (4, .int p4), (5, .int p5)]) (st' := [.int ((p4 >>> ((16 : Int32) &&& 31)) &&& (255 : Int32)), .int (13 : Int32), .ref 179]) rfl ?_
  refine jv_Ev.m jv_i351 (pc' := 115) (st' := []) rfl rfl (jv_m_iast rfl (by decide)) ?_
  refine jv_Ev.steps jv_i351 2 (pc' := 117) (l' := [(7, .int p4), (6, .int (13 : Int32)), (0, .ref 178), (1, .int p1), (2, .int p2), (3, .int p3), (4, .int p4), (5, .int p5)]) (st' := [.ref 178, .ref 178]) rfl ?_
  refine jv_Ev.m jv_i351 (pc' := 120) (st' := [.int (13 : Int32), .ref 178]) rfl rfl (jv_m_getI rfl rfl rfl rfl) ?_
  refine jv_Ev.steps jv_i351 2 (pc' := 122) (l' := [(7, .int p4), (6, .int (13 : Int32)), (0, .ref 178), (1, .int p1), (2, .int p2), (3, .int p3), (4, .int p4), (5, .int p5)]) (st' := [.int (14 : Int32), .ref 178]) rfl ?_
  refine jv_Ev.m jv_i351 (pc' := 125) (st' := []) rfl rfl (jv_m_putI rfl rfl rfl rfl rfl) ?_
  refine jv_Ev.steps jv_i351 4 (pc' := 38) (l' := [(6, .int (14 : Int32)), (7, .int p4), (0, .ref 178), (1, .int p1), (2, .int p2), (3, .int p3), (4, .int p4), (5, .int p5)]) (st' := [.int (20 : Int32), .int (14 : Int32)]) rfl ?_
  refine jv_Ev.br jv_i351 (pc' := 41) (st' := []) rfl (jv_bc_ge.trans (jx_gof (by decide))) ?_
  refine jv_Ev.steps jv_i351 2 (pc' := 44) (l' := [(6, .int (14 : Int32)), (7, .int p4), (0, .ref 178), (1, .int p1), (2, .int p2), (3, .int p3), (4, .int p4), (5, .int p5)]) (st' := [.int (4 : Int32), .int (14 : Int32)]) rfl ?_
  refine jv_Ev.br jv_i351 (pc' := 51) (st' := []) rfl (jv_bc_ge.trans (jx_got (by decide))) ?_
  refine jv_Ev.steps jv_i351 2 (pc' := 55) (l' := [(6, .int (14 : Int32)), (7, .int p4), (0, .ref 178), (1, .int p1), (2, .int p2), (3, .int p3), (4, .int p4), (5, .int p5)]) (st' := [.int (8 : Int32), .int (14 : Int32)]) rfl ?_
  refine jv_Ev.br jv_i351 (pc' := 62) (st' := []) rfl (jv_bc_ge.trans (jx_got (by decide))) ?_
  refine jv_Ev.steps jv_i351 2 (pc' := 66) (l' := [(6, .int (14 : Int32)), (7, .int p4), (0, .ref 178), (1, .int p1), (2, .int p2), (3, .int p3), (4, .int p4), (5, .int p5)]) (st' := [.int (12 : Int32), .int (14 : Int32)]) rfl ?_
  refine jv_Ev.br jv_i351 (pc' := 73) (st' := []) rfl (jv_bc_ge.trans (jx_got (by decide))) ?_
  refine jv_Ev.steps jv_i351 2 (pc' := 77) (l' := [(6, .int (14 : Int32)), (7, .int p4), (0, .ref 178), (1, .int p1), (2, .int p2), (3, .int p3), (4, .int p4), (5, .int p5)]) (st' := [.int (16 : Int32), .int (14 : Int32)]) rfl ?_
  refine jv_Ev.br jv_i351 (pc' := 80) (st' := []) rfl (jv_bc_ge.trans (jx_gof (by decide))) ?_
  refine jv_Ev.steps jv_i351 4 (pc' := 90) (l' := [(7, .int p4), (6, .int (14 : Int32)), (0, .ref 178), (1, .int p1), (2, .int p2), (3, .int p3), (4, .int p4), (5, .int p5)]) (st' := [.ref 178]) rfl ?_
  refine jv_Ev.m jv_i351 (pc' := 93) (st' := [.ref 179]) rfl rfl (jv_m_getR rfl rfl rfl rfl) ?_
  refine jv_Ev.steps jv_i351 1 (pc' := 94) (l' := [(7, .int p4), (6, .int (14 : Int32)), (0, .ref 178), (1, .int p1), (2, .int p2), (3, .int p3), (4, .int p4), (5, .int p5)]) (st' := [.ref 178, .ref 179]) rfl ?_
  refine jv_Ev.m jv_i351 (pc' := 97) (st' := [.int (14 : Int32), .ref 179]) rfl rfl (jv_m_getI rfl rfl rfl rfl) ?_
  refine jv_Ev.steps jv_i351 11 (pc' := 114) (l' := [(7, .int p4), (6, .int (14 : Int32)), (0, .ref 178), (1, .int p1), (2, .int p2), (3, .int p3), (4, .int p4), (5, .int p5)]) (st' := [.int ((p4 >>> ((8 : Int32) &&& 31)) &&& (255 : Int32)), .int (14 : Int32), .ref 179]) rfl ?_
  refine jv_Ev.m jv_i351 (pc' := 115) (st' := []) rfl rfl (jv_m_iast rfl (by decide)) ?_
  refine jv_Ev.steps jv_i351 2 (pc' := 117) (l' := [(7, .int p4), (6, .int (14 : Int32)), (0, .ref 178), (1, .int p1), (2, .int p2), (3, .int p3), (4, .int p4), (5, .int p5)]) (st' := [.ref 178, .ref 178]) rfl ?_
  refine jv_Ev.m jv_i351 (pc' := 120) (st' := [.int (14 : Int32), .ref 178]) rfl rfl (jv_m_getI rfl rfl rfl rfl) ?_
  refine jv_Ev.steps jv_i351 2 (pc' := 122) (l' := [(7, .int p4), (6, .int (14 : Int32)), (0, .ref 178), (1, .int p1), (2, .int p2), (3, .int p3), (4, .int p4), (5, .int p5)]) (st' := [.int (15 : Int32), .ref 178]) rfl ?_
  refine jv_Ev.m jv_i351 (pc' := 125) (st' := []) rfl rfl (jv_m_putI rfl rfl rfl rfl rfl) ?_
  refine jv_Ev.steps jv_i351 4 (pc' := 38) (l' := [(6, .int (15 : Int32)), (7, .int p4), (0, .ref 178), (1, .int p1), (2, .int p2), (3, .int p3), (4, .int p4), (5, .int p5)]) (st' := [.int (20 : Int32), .int (15 : Int32)]) rfl ?_
  refine jv_Ev.br jv_i351 (pc' := 41) (st' := []) rfl (jv_bc_ge.trans (jx_gof (by decide))) ?_
  refine jv_Ev.steps jv_i351 2 (pc' := 44) (l' := [(6, .int (15 : Int32)), (7, .int p4), (0, .ref 178), (1, .int p1), (2, .int p2), (3, .int p3), (4, .int p4), (5, .int p5)]) (st' := [.int (4 : Int32), .int (15 : Int32)]) rfl ?_
  refine jv_Ev.br jv_i351 (pc' := 51) (st' := []) rfl (jv_bc_ge.trans (jx_got (by decide))) ?_
  refine jv_Ev.steps jv_i351 2 (pc' := 55) (l' := [(6, .int (15 : Int32)), (7, .int p4), (0, .ref 178), (1, .int p1), (2, .int p2), (3, .int p3), (4, .int p4), (5, .int p5)]) (st' := [.int (8 : Int32), .int (15 : Int32)]) rfl ?_
  refine jv_Ev.br jv_i351 (pc' := 62) (st' := []) rfl (jv_bc_ge.trans (jx_got (by decide))) ?_
  refine jv_Ev.steps jv_i351 2 (pc' := 66) (l' := [(6, .int (15 : Int32)), (7, .int p4), (0, .ref 178), (1, .int p1), (2, .int p2), (3, .int p3), (4, .int p4), (5, .int p5)]) (st' := [.int (12 : Int32), .int (15 : Int32)]) rfl ?_
  refine jv_Ev.br jv_i351 (pc' := 73) (st' := []) rfl (jv_bc_ge.trans (jx_got (by decide))) ?_
  refine jv_Ev.steps jv_i351 2 (pc' := 77) (l' := [(6, .int (15 : Int32)), (7, .int p4), (0, .ref 178), (1, .int p1), (2, .int p2), (3, .int p3), (4, .int p4), (5, .int p5)]) (st' := [.int (16 : Int32), .int (15 : Int32)]) rfl ?_
  refine jv_Ev.br jv_i351 (pc' := 80) (st' := []) rfl (jv_bc_ge.trans (jx_gof (by decide))) ?_
  refine jv_Ev.steps jv_i351 4 (pc' := 90) (l' := [(7, .int p4), (6, .int (15 : Int32)), (0, .ref 178), (1, .int p1), (2, .int p2), (3, .int p3), (4, .int p4), (5, .int p5)]) (st' := [.ref 178]) rfl ?_
  refine jv_Ev.m jv_i351 (pc' := 93) (st' := [.ref 179]) rfl rfl (jv_m_getR rfl rfl rfl rfl) ?_
  refine jv_Ev.steps jv_i351 1 (pc' := 94) (l' := [(7, .int p4), (6, .int (15 : Int32)), (0, .ref 178), (1, .int p1), (2, .int p2), (3, .int p3), (4, .int p4), (5, .int p5)]) (st' := [.ref 178, .ref 179]) rfl ?_
  refine jv_Ev.m jv_i351 (pc' := 97) (st' := [.int (15 : Int32), .ref 179]) rfl rfl (jv_m_getI rfl rfl rfl rfl) ?_
  refine jv_Ev.steps jv_i351 11 (pc' := 114) (l' := [(7, .int p4), (6, .int (15 : Int32)), (0, .ref 178), (1, .int p1), (2, .int p2), (3, .int p3), (4, .int p4), (5, .int p5)]) (st' := [.int ((p4 >>> ((0 : Int32) &&& 31)) &&& (255 : Int32)), .int (15 : Int32), .ref 179]) rfl ?_
  refine jv_Ev.m jv_i351 (pc' := 115) (st' := []) rfl rfl (jv_m_iast rfl (by decide)) ?_
  refine jv_Ev.steps jv_i351 2 (pc' := 117) (l' := [(7, .int p4), (6, .int (15 : Int32)), (0, .ref 178), (1, .int p1), (2, .int p2), (3, .int p3), (4, .int p4), (5, .int p5)]) (st' := [.ref 178, .ref 178]) rfl ?_
  refine jv_Ev.m jv_i351 (pc' := 120) (st' := [.int (15 : Int32), .ref 178]) rfl rfl (jv_m_getI rfl rfl rfl rfl) ?_
  refine jv_Ev.steps jv_i351 2 (pc' := 122) (l' := [(7, .int p4), (6, .int (15 : Int32)), (0, .ref 178), (1, .int p1), (2, .int p2), (3, .int p3), (4, .int p4), (5, .int p5)]) (st' := [.int (16 : Int32), .ref 178]) rfl ?_
  refine jv_Ev.m jv_i351 (pc' := 125) (st' := []) rfl rfl (jv_m_putI rfl rfl rfl rfl rfl) ?_
  refine jv_Ev.steps jv_i351 4 (pc' := 38) (l' := [(6, .int (16 : Int32)), (7, .int p4), (0, .ref 178), (1, .int p1), (2, .int p2), (3, .int p3), (4, .int p4), (5, .int p5)]) (st' := [.int (20 : Int32), .int (16 : Int32)]) rfl ?_
  refine jv_Ev.br jv_i351 (pc' := 41) (st' := []) rfl (jv_bc_ge.trans (jx_gof (by decide))) ?_
  refine jv_Ev.steps jv_i351 2 (pc' := 44) (l' := [(6, .int (16 : Int32)), (7, .int p4), (0, .ref 178), (1, .int p1), (2, .int p2), (3, .int p3), (4, .int p4), (5, .int p5)]) (st' := [.int (4 : Int32), .int (16 : Int32)]) rfl ?_
  refine jv_Ev.br jv_i351 (pc' := 51) (st' := []) rfl (jv_bc_ge.trans (jx_got (by decide))) ?_
  refine jv_Ev.steps jv_i351 2 (pc' := 55) (l' := [(6, .int (16 : Int32)), (7, .int p4), (0, .ref 178), (1, .int p1), (2, .int p2), (3, .int p3), (4, .int p4), (5, .int p5)]) (st' := [.int (8 : Int32), .int (16 : Int32)]) rfl ?_
  refine jv_Ev.br jv_i351 (pc' := 62) (st' := []) rfl (jv_bc_ge.trans (jx_got (by decide))) ?_
  refine jv_Ev.steps jv_i351 2 (pc' := 66) (l' := [(6, .int (16 : Int32)), (7, .int p4), (0, .ref 178), (1, .int p1), (2, .int p2), (3, .int p3), (4, .int p4), (5, .int p5)]) (st' := [.int (12 : Int32), .int (16 : Int32)]) rfl ?_
  refine jv_Ev.br jv_i351 (pc' := 73) (st' := []) rfl (jv_bc_ge.trans (jx_got (by decide))) ?_
  refine jv_Ev.steps jv_i351 2 (pc' := 77) (l' := [(6, .int (16 : Int32)), (7, .int p4), (0, .ref 178), (1, .int p1), (2, .int p2), (3, .int p3), (4, .int p4), (5, .int p5)]) (st' := [.int (16 : Int32), .int (16 : Int32)]) rfl ?_
  refine jv_Ev.br jv_i351 (pc' := 85) (st' := []) rfl (jv_bc_ge.trans (jx_got (by decide))) ?_
  refine jv_Ev.steps jv_i351 3 (pc' := 90) (l' := [(7, .int p5), (6, .int (16 : Int32)), (0, .ref 178), (1, .int p1), (2, .int p2), (3, .int p3), (4, .int p4), (5, .int p5)]) (st' := [.ref 178]) rfl ?_
  refine jv_Ev.m jv_i351 (pc' := 93) (st' := [.ref 179]) rfl rfl (jv_m_getR rfl rfl rfl rfl) ?_
  refine jv_Ev.steps jv_i351 1 (pc' := 94) (l' := [(7, .int p5), (6, .int (16 : Int32)), (0, .ref 178), (1, .int p1), (2, .int p2), (3, .int p3), (4, .int p4), (5, .int p5)]) (st' := [.ref 178, .ref 179]) rfl ?_
  refine jv_Ev.m jv_i351 (pc' := 97) (st' := [.int (16 : Int32), .ref 179]) rfl rfl (jv_m_getI rfl rfl rfl rfl) ?_
  refine jv_Ev.steps jv_i351 11 (pc' := 114) (l' := [(7, .int p5), (6, .int (16 : Int32)), (0, .ref 178), (1, .int p1), (2, .int p2), (3, .int p3), (4, .int p4), (5, .int p5)]) (st' := [.int ((p5 >>> ((24 : Int32) &&& 31)) &&& (255 : Int32)), .int (16 : Int32), .ref 179]) rfl ?_
  refine jv_Ev.m jv_i351 (pc' := 115) (st' := []) rfl rfl (jv_m_iast rfl (by decide)) ?_
  refine jv_Ev.steps jv_i351 2 (pc' := 117) (l' := [(7, .int p5), (6, .int (16 : Int32)), (0, .ref 178), (1, .int p1), (2, .int p2), (3, .int p3), (4, .int p4), (5, .int p5)]) (st' := [.ref 178, .ref 178]) rfl ?_
  refine jv_Ev.m jv_i351 (pc' := 120) (st' := [.int (16 : Int32), .ref 178]) rfl rfl (jv_m_getI rfl rfl rfl rfl) ?_
  refine jv_Ev.steps jv_i351 2 (pc' := 122) (l' := [(7, .int p5), (6, .int (16 : Int32)), (0, .ref 178), (1, .int p1), (2, .int p2), (3, .int p3), (4, .int p4), (5, .int p5)]) (st' := [.int (17 : Int32), .ref 178]) rfl ?_
  refine jv_Ev.m jv_i351 (pc' := 125) (st' := []) rfl rfl (jv_m_putI rfl rfl rfl rfl rfl) ?_
  refine jv_Ev.steps jv_i351 4 (pc' := 38) (l' := [(6, .int (17 : Int32)), (7, .int p5), (0, .ref 178), (1, .int p1), (2, .int p2), (3, .int p3), (4, .int p4), (5, .int p5)]) (st' := [.int (20 : Int32), .int (17 : Int32)]) rfl ?_
  refine jv_Ev.br jv_i351 (pc' := 41) (st' := []) rfl (jv_bc_ge.trans (jx_gof (by decide))) ?_
  refine jv_Ev.steps jv_i351 2 (pc' := 44) (l' := [(6, .int (17 : Int32)), (7, .int p5), (0, .ref 178), (1, .int p1), (2, .int p2), (3, .int p3), (4, .int p4), (5, .int p5)]) (st' := [.int (4 : Int32), .int (17 : Int32)]) rfl ?_
  refine jv_Ev.br jv_i351 (pc' := 51) (st' := []) rfl (jv_bc_ge.trans (jx_got (by decide))) ?_
  refine jv_Ev.steps jv_i351 2 (pc' := 55) (l' := [(6, .int (17 : Int32)), (7, .int p5), (0, .ref 178), (1, .int p1), (2, .int p2), (3, .int p3), (4, .int p4), (5, .int p5)]) (st' := [.int (8 : Int32), .int (17 : Int32)]) rfl ?_
  refine jv_Ev.br jv_i351 (pc' := 62) (st' := []) rfl (jv_bc_ge.trans (jx_got (by decide))) ?_
  refine jv_Ev.steps jv_i351 2 (pc' := 66) (l' := [(6, .int (17 : Int32)), (7, .int p5), (0, .ref 178), (1, .int p1), (2, .int p2), (3, .int p3), (4, .int p4), (5, .int p5)]) (st' := [.int (12 : Int32), .int (17 : Int32)]) rfl ?_
  refine jv_Ev.br jv_i351 (pc' := 73) (st' := []) rfl (jv_bc_ge.trans (jx_got (by decide))) ?_
  refine jv_Ev.steps jv_i351 2 (pc' := 77) (l' := [(6, .int (17 : Int32)), (7, .int p5), (0, .ref 178), (1, .int p1), (2, .int p2), (3, .int p3), (4, .int p4), (5, .int p5)]) (st' := [.int (16 : Int32), .int (17 : Int32)]) rfl ?_
  refine jv_Ev.br jv_i351 (pc' := 85) (st' := []) rfl (jv_bc_ge.trans (jx_got (by decide))) ?_
  refine jv_Ev.steps jv_i351 3 (pc' := 90) (l' := [(7, .int p5), (6, .int (17 : Int32)), (0, .ref 178), (1, .int p1), (2, .int p2), (3, .int p3), (4, .int p4), (5, .int p5)]) (st' := [.ref 178]) rfl ?_
  refine jv_Ev.m jv_i351 (pc' := 93) (st' := [.ref 179]) rfl rfl (jv_m_getR rfl rfl rfl rfl) ?_
  refine jv_Ev.steps jv_i351 1 (pc' := 94) (l' := [(7, .int p5), (6, .int (17 : Int32)), (0, .ref 178), (1, .int p1), (2, .int p2), (3, .int p3), (4, .int p4), (5, .int p5)]) (st' := [.ref 178, .ref 179]) rfl ?_
  refine jv_Ev.m jv_i351 (pc' := 97) (st' := [.int (17 : Int32), .ref 179]) rfl rfl (jv_m_getI rfl rfl rfl rfl) ?_
  refine jv_Ev.steps jv_i351 11 (pc' := 114) (l' := [(7, .int p5), (6, .int (17 : Int32)), (0, .ref 178), (1, .int p1), (2, .int p2), (3, .int p3), (4, .int p4), (5, .int p5)]) (st' := [.int ((p5 >>> ((16 : Int32) &&& 31)) &&& (255 : Int32)), .int (17 : Int32), .ref 179]) rfl ?_
  refine jv_Ev.m jv_i351 (pc' := 115) (st' := []) rfl rfl (jv_m_iast rfl (by decide)) ?_
  refine jv_Ev.steps jv_i351 2 (pc' := 117) (l' := [(7, .int p5), (6, .int (17 : Int32)), (0, .ref 178), (1, .int p1), (2, .int p2), (3, .int p3), (4, .int p4), (5, .int p5)]) (st' := [.ref 178, .ref 178]) rfl ?_
  refine jv_Ev.m jv_i351 (pc' := 120) (st' := [.int (17 : Int32), .ref 178]) rfl rfl (jv_m_getI rfl rfl rfl rfl) ?_
  refine jv_Ev.steps jv_i351 2 (pc' := 122) (l' := [(7, .int p5), (6, .int (17 : Int32)), (0, .ref 178), (1, .int p1), (2, .int p2), (3, .int p3), (4, .int p4), (5, .int p5)]) (st' := [.int (18 : Int32), .ref 178]) rfl ?_
  refine jv_Ev.m jv_i351 (pc' := 125) (st' := []) rfl rfl (jv_m_putI rfl rfl rfl rfl rfl) ?_
  refine jv_Ev.steps jv_i351 4 (pc' := 38) (l' := [(6, .int (18 : Int32)), (7, .int p5), (0, .ref 178), (1, .int p1), (2, .int p2), (3, .int p3), (4, .int p4), (5, .int p5)]) (st' := [.int (20 : Int32), .int (18 : Int32)]) rfl ?_
  refine jv_Ev.br jv_i351 (pc' := 41) (st' := []) rfl (jv_bc_ge.trans (jx_gof (by decide))) ?_
  refine jv_Ev.steps jv_i351 2 (pc' := 44) (l' := [(6, .int (18 : Int32)), (7, .int p5), (0, .ref 178), (1, .int p1), (2, .int p2), (3, .int p3), (4, .int p4), (5, .int p5)]) (st' := [.int (4 : Int32), .int (18 : Int32)]) rfl ?_
  refine jv_Ev.br jv_i351 (pc' := 51) (st' := []) rfl (jv_bc_ge.trans (jx_got (by decide))) ?_
  refine jv_Ev.steps jv_i351 2 (pc' := 55) (l' := [(6, .int (18 : Int32)), (7, .int p5), (0, .ref 178), (1, .int p1), (2, .int p2), (3, .int p3), (4, .int p4), (5, .int p5)]) (st' := [.int (8 : Int32), .int (18 : Int32)]) rfl ?_
  refine jv_Ev.br jv_i351 (pc' := 62) (st' := []) rfl (jv_bc_ge.trans (jx_got (by decide))) ?_
  refine jv_Ev.steps jv_i351 2 (pc' := 66) (l' := [(6, .int (18 : Int32)), (7, .int p5), (0, .ref 178), (1, .int p1), (2, .int p2), (3, .int p3), (4, .int p4), (5, .int p5)]) (st' := [.int (12 : Int32), .int (18 : Int32)]) rfl ?_
  refine jv_Ev.br jv_i351 (pc' := 73) (st' := []) rfl (jv_bc_ge.trans (jx_got (by decide))) ?_
  refine jv_Ev.steps jv_i351 2 (pc' := 77) (l' := [(6, .int (18 : Int32)), (7, .int p5), (0, .ref 178), (1, .int p1), (2, .int p2), (3, .int p3), (4, .int p4), (5, .int p5)]) (st' := [.int (16 : Int32), .int (18 : Int32)]) rfl ?_
  refine jv_Ev.br jv_i351 (pc' := 85) (st' := []) rfl (jv_bc_ge.trans (jx_got (by decide))) ?_
  refine jv_Ev.steps jv_i351 3 (pc' := 90) (l' := [(7, .int p5), (6, .int (18 : Int32)), (0, .ref 178), (1, .int p1), (2, .int p2), (3, .int p3), (4, .int p4), (5, .int p5)]) (st' := [.ref 178]) rfl ?_
  refine jv_Ev.m jv_i351 (pc' := 93) (st' := [.ref 179]) rfl rfl (jv_m_getR rfl rfl rfl rfl) ?_
  refine jv_Ev.steps jv_i351 1 (pc' := 94) (l' := [(7, .int p5), (6, .int (18 : Int32)), (0, .ref 178), (1, .int p1), (2, .int p2), (3, .int p3), (4, .int p4), (5, .int p5)]) (st' := [.ref 178, .ref 179]) rfl ?_
  refine jv_Ev.m jv_i351 (pc' := 97) (st' := [.int (18 : Int32), .ref 179]) rfl rfl (jv_m_getI rfl rfl rfl rfl) ?_
  refine jv_Ev.steps jv_i351 11 (pc' := 114) (l' := [(7, .int p5), (6, .int (18 : Int32)), (0, .ref 178), (1, .int p1), (2, .int p2), (3, .int p3), (4, .int p4), (5, .int p5)]) (st' := [.int ((p5 >>> ((8 : Int32) &&& 31)) &&& (255 : Int32)), .int (18 : Int32), .ref 179]) rfl ?_
  refine jv_Ev.m jv_i351 (pc' := 115) (st' := []) rfl rfl (jv_m_iast rfl (by decide)) ?_
  refine jv_Ev.steps jv_i351 2 (pc' := 117) (l' := [(7, .int p5), (6, .int (18 : Int32)), (0, .ref 178), (1, .int p1), (2, .int p2), (3, .int p3), (4, .int p4), (5, .int p5)]) (st' := [.ref 178, .ref 178]) rfl ?_
  refine jv_Ev.m jv_i351 (pc' := 120) (st' := [.int (18 : Int32), .ref 178]) rfl rfl (jv_m_getI rfl rfl rfl rfl) ?_
  refine jv_Ev.steps jv_i351 2 (pc' := 122) (l' := [(7, .int p5), (6, .int (18 : Int32)), (0, .ref 178), (1, .int p1), (2, .int p2), (3, .int p3), (4, .int p4), (5, .int p5)]) (st' := [.int (19 : Int32), .ref 178]) rfl ?_
  refine jv_Ev.m jv_i351 (pc' := 125) (st' := []) rfl rfl (jv_m_putI rfl rfl rfl rfl rfl) ?_
  refine jv_Ev.steps jv_i351 4 (pc' := 38) (l' := [(6, .int (19 : Int32)), (7, .int p5), (0, .ref 178), (1, .int p1), (2, .int p2), (3, .int p3), (4, .int p4), (5, .int p5)]) (st' := [.int (20 : Int32), .int (19 : Int32)]) rfl ?_
  refine jv_Ev.br jv_i351 (pc' := 41) (st' := []) rfl (jv_bc_ge.trans (jx_gof (by decide))) ?_
  refine jv_Ev.steps jv_i351 2 (pc' := 44) (l' := [(6, .int (19 : Int32)), (7, .int p5), (0, .ref 178), (1, .int p1), (2, .int p2), (3, .int p3), (4, .int p4), (5, .int p5)]) (st' := [.int (4 : Int32), .int (19 : Int32)]) rfl ?_
  refine jv_Ev.br jv_i351 (pc' := 51) (st' := []) rfl (jv_bc_ge.trans (jx_got (by decide))) ?_
  refine jv_Ev.steps jv_i351 2 (pc' := 55) (l' := [(6, .int (19 : Int32)), (7, .int p5), (0, .ref 178), (1, .int p1), (2, .int p2), (3, .int p3), (4, .int p4), (5, .int p5)]) (st' := [.int (8 : Int32), .int (19 : Int32)]) rfl ?_
  refine jv_Ev.br jv_i351 (pc' := 62) (st' := []) rfl (jv_bc_ge.trans (jx_got (by decide))) ?_
  refine jv_Ev.steps jv_i351 2 (pc' := 66) (l' := [(6, .int (19 : Int32)), (7, .int p5), (0, .ref 178), (1, .int p1), (2, .int p2), (3, .int p3), (4, .int p4), (5, .int p5)]) (st' := [.int (12 : Int32), .int (19 : Int32)]) rfl ?_
  refine jv_Ev.br jv_i351 (pc' := 73) (st' := []) rfl (jv_bc_ge.trans (jx_got (by decide))) ?_
  refine jv_Ev.steps jv_i351 2 (pc' := 77) (l' := [(6, .int (19 : Int32)), (7, .int p5), (0, .ref 178), (1, .int p1), (2, .int p2), (3, .int p3), (4, .int p4), (5, .int p5)]) (st' := [.int (16 : Int32), .int (19 : Int32)]) rfl ?_
  refine jv_Ev.br jv_i351 (pc' := 85) (st' := []) rfl (jv_bc_ge.trans (jx_got (by decide))) ?_
  refine jv_Ev.steps jv_i351 3 (pc' := 90) (l' := [(7, .int p5), (6, .int (19 : Int32)), (0, .ref 178), (1, .int p1), (2, .int p2), (3, .int p3), (4, .int p4), (5, .int p5)]) (st' := [.ref 178]) rfl ?_
  refine jv_Ev.m jv_i351 (pc' := 93) (st' := [.ref 179]) rfl rfl (jv_m_getR rfl rfl rfl rfl) ?_
  refine jv_Ev.steps jv_i351 1 (pc' := 94) (l' := [(7, .int p5), (6, .int (19 : Int32)), (0, .ref 178), (1, .int p1), (2, .int p2), (3, .int p3), (4, .int p4), (5, .int p5)]) (st' := [.ref 178, .ref 179]) rfl ?_
  refine jv_Ev.m jv_i351 (pc' := 97) (st' := [.int (19 : Int32), .ref 179]) rfl rfl (jv_m_getI rfl rfl rfl rfl) ?_
  refine jv_Ev.steps jv_i351 11 (pc' := 114) (l' := [(7, .int p5), (6, .int (19 : Int32)), (0, .ref 178), (1, .int p1), (2, .int p2), (3, .int p3), (4, .int p4), (5, .int p5)]) (st' := [.int ((p5 >>> ((0 : Int32) &&& 31)) &&& (255 : Int32)), .int (19 : Int32), .ref 179]) rfl ?_
  refine jv_Ev.m jv_i351 (pc' := 115) (st' := []) rfl rfl (jv_m_iast rfl (by decide)) ?_
  refine jv_Ev.steps jv_i351 2 (pc' := 117) (l' := [(7, .int p5), (6, .int (19 : Int32)), (0, .ref 178), (1, .int p1), (2, .int p2), (3, .int p3), (4, .int p4), (5, .int p5)]) (st' := [.ref 178, .ref 178]) rfl ?_
  refine jv_Ev.m jv_i351 (pc' := 120) (st' := [.int (19 : Int32), .ref 178]) rfl rfl (jv_m_getI rfl rfl rfl rfl) ?_
  refine jv_Ev.steps jv_i351 2 (pc' := 122) (l' := [(7, .int p5), (6, .int (19 : Int32)), (0, .ref 178), (1, .int p1), (2, .int p2), (3, .int p3), (4, .int p4), (5, .int p5)]) (st' := [.int (20 : Int32), .ref 178]) rfl ?_
  refine jv_Ev.m jv_i351 (pc' := 125) (st' := []) rfl rfl (jv_m_putI rfl rfl rfl rfl rfl) ?_
  refine jv_Ev.steps jv_i351 4 (pc' := 38) (l' := [(6, .int (20 : Int32)), (7, .int p5), (0, .ref 178), (1, .int p1), (2, .int p2), (3, .int p3), (4, .int p4), (5, .int p5)]) (st' := [.int (20 : Int32), .int (20 : Int32)]) rfl ?_
  refine jv_Ev.br jv_i351 (pc' := 131) (st' := []) rfl (jv_bc_ge.trans (jx_got (by decide))) ?_
  refine jv_Ev.steps jv_i351 1 (pc' := 132) (l' := [(6, .int (20 : Int32)), (7, .int p5), (0, .ref 178), (1, .int p1), (2, .int p2), (3, .int p3), (4, .int p4), (5, .int p5)]) (st' := [.ref 178]) rfl ?_
  refine jv_Ev.m jv_i351 (pc' := 135) (st' := [.int (20 : Int32)]) rfl rfl (jv_m_getI rfl rfl rfl rfl) ?_
  exact jv_Ev.ret jv_i351 rfl rfl

set_option maxRecDepth 100000 in
theorem jv_i350 : jv_I 350 1 (some .int) 0 0 jv_c350 := ⟨rfl, rfl, rfl, rfl, rfl⟩
set_option maxRecDepth 100000 in
/-- ProgramBoxModel.thrown -/
theorem jx_e9 (p0 : Int32) (p1 : Int32) (p2 : Int32) (p3 : Int32) (p4 : Int32) (p5 : Int32)  : jv_Ms 350 [.ref 178] (jv_H (jx_K 227) (jv_u (jv_u (jv_u (jv_u (jv_u (jv_u (jv_u (jv_u (jv_u (jv_u (jv_u (jv_u (jv_u (jv_u (jv_u (jv_u (jv_u (jv_u (jv_u (jv_u (jv_u (jv_u (jv_u (jv_u (jv_u (jv_u (jv_u (jv_u (jv_u (jv_u (jv_u (jv_u (jv_u (jv_u (jv_u (jv_u (jv_u (jv_u (jv_u (jv_u (jv_u (jv_u (jv_u (jv_u (jv_u (jv_u (jv_u (jv_u (jv_u (jv_u (jv_u (jv_u (jv_u (jv_u (jv_u (jv_u (jv_u (jv_u (jv_u (jv_u (jv_u (jv_u (jv_u (jv_u (jv_u (jv_u (jv_u (jv_u (jv_u (jv_u (jv_u (jv_u (jv_u (jv_u (jv_u (jv_u (jv_u (jv_u (jv_u (jv_u (jv_u jx_If 1 (0 : Int32).toNatClampNeg (p1 >>> ((24 : Int32) &&& 31)).toInt8.toInt32.toInt8.toInt32) 0 1 (1 : Int32)) 1 (1 : Int32).toNatClampNeg (p1 >>> ((16 : Int32) &&& 31)).toInt8.toInt32.toInt8.toInt32) 0 1 (2 : Int32)) 1 (2 : Int32).toNatClampNeg (p1 >>> ((8 : Int32) &&& 31)).toInt8.toInt32.toInt8.toInt32) 0 1 (3 : Int32)) 1 (3 : Int32).toNatClampNeg (p1 >>> ((0 : Int32) &&& 31)).toInt8.toInt32.toInt8.toInt32) 0 1 (4 : Int32)) 1 (4 : Int32).toNatClampNeg (p2 >>> ((24 : Int32) &&& 31)).toInt8.toInt32.toInt8.toInt32) 0 1 (5 : Int32)) 1 (5 : Int32).toNatClampNeg (p2 >>> ((16 : Int32) &&& 31)).toInt8.toInt32.toInt8.toInt32) 0 1 (6 : Int32)) 1 (6 : Int32).toNatClampNeg (p2 >>> ((8 : Int32) &&& 31)).toInt8.toInt32.toInt8.toInt32) 0 1 (7 : Int32)) 1 (7 : Int32).toNatClampNeg (p2 >>> ((0 : Int32) &&& 31)).toInt8.toInt32.toInt8.toInt32) 0 1 (8 : Int32)) 1 (8 : Int32).toNatClampNeg (p3 >>> ((24 : Int32) &&& 31)).toInt8.toInt32.toInt8.toInt32) 0 1 (9 : Int32)) 1 (9 : Int32).toNatClampNeg (p3 >>> ((16 : Int32) &&& 31)).toInt8.toInt32.toInt8.toInt32) 0 1 (10 : Int32)) 1 (10 : Int32).toNatClampNeg (p3 >>> ((8 : Int32) &&& 31)).toInt8.toInt32.toInt8.toInt32) 0 1 (11 : Int32)) 1 (11 : Int32).toNatClampNeg (p3 >>> ((0 : Int32) &&& 31)).toInt8.toInt32.toInt8.toInt32) 0 1 (12 : Int32)) 1 (12 : Int32).toNatClampNeg (p4 >>> ((24 : Int32) &&& 31)).toInt8.toInt32.toInt8.toInt32) 0 1 (13 : Int32)) 1 (13 : Int32).toNatClampNeg (p4 >>> ((16 : Int32) &&& 31)).toInt8.toInt32.toInt8.toInt32) 0 1 (14 : Int32)) 1 (14 : Int32).toNatClampNeg (p4 >>> ((8 : Int32) &&& 31)).toInt8.toInt32.toInt8.toInt32) 0 1 (15 : Int32)) 1 (15 : Int32).toNatClampNeg (p4 >>> ((0 : Int32) &&& 31)).toInt8.toInt32.toInt8.toInt32) 0 1 (16 : Int32)) 1 (16 : Int32).toNatClampNeg (p5 >>> ((24 : Int32) &&& 31)).toInt8.toInt32.toInt8.toInt32) 0 1 (17 : Int32)) 1 (17 : Int32).toNatClampNeg (p5 >>> ((16 : Int32) &&& 31)).toInt8.toInt32.toInt8.toInt32) 0 1 (18 : Int32)) 1 (18 : Int32).toNatClampNeg (p5 >>> ((8 : Int32) &&& 31)).toInt8.toInt32.toInt8.toInt32) 0 1 (19 : Int32)) 1 (19 : Int32).toNatClampNeg (p5 >>> ((0 : Int32) &&& 31)).toInt8.toInt32.toInt8.toInt32) 0 1 (20 : Int32)) 178 0 (0 : Int32)) 179 (0 : Int32).toNatClampNeg ((p1 >>> ((24 : Int32) &&& 31)) &&& (255 : Int32))) 178 2 (1 : Int32)) 179 (1 : Int32).toNatClampNeg ((p1 >>> ((16 : Int32) &&& 31)) &&& (255 : Int32))) 178 2 (2 : Int32)) 179 (2 : Int32).toNatClampNeg ((p1 >>> ((8 : Int32) &&& 31)) &&& (255 : Int32))) 178 2 (3 : Int32)) 179 (3 : Int32).toNatClampNeg ((p1 >>> ((0 : Int32) &&& 31)) &&& (255 : Int32))) 178 2 (4 : Int32)) 179 (4 : Int32).toNatClampNeg ((p2 >>> ((24 : Int32) &&& 31)) &&& (255 : Int32))) 178 2 (5 : Int32)) 179 (5 : Int32).toNatClampNeg ((p2 >>> ((16 : Int32) &&& 31)) &&& (255 : Int32))) 178 2 (6 : Int32)) 179 (6 : Int32).toNatClampNeg ((p2 >>> ((8 : Int32) &&& 31)) &&& (255 : Int32))) 178 2 (7 : Int32)) 179 (7 : Int32).toNatClampNeg ((p2 >>> ((0 : Int32) &&& 31)) &&& (255 : Int32))) 178 2 (8 : Int32)) 179 (8 : Int32).toNatClampNeg ((p3 >>> ((24 : Int32) &&& 31)) &&& (255 : Int32))) 178 2 (9 : Int32)) 179 (9 : Int32).toNatClampNeg ((p3 >>> ((16 : Int32) &&& 31)) &&& (255 : Int32))) 178 2 (10 : Int32)) 179 (10 : Int32).toNatClampNeg ((p3 >>> ((8 : Int32) &&& 31)) &&& (255 : Int32))) 178 2 (11 : Int32)) 179 (11 : Int32).toNatClampNeg ((p3 >>> ((0 : Int32) &&& 31)) &&& (255 : Int32))) 178 2 (12 : Int32)) 179 (12 : Int32).toNatClampNeg ((p4 >>> ((24 : Int32) &&& 31)) &&& (255 : Int32))) 178 2 (13 : Int32)) 179 (13 : Int32).toNatClampNeg ((p4 >>> ((16 : Int32) &&& 31)) &&& (255 : Int32))) 178 2 (14 : Int32)) 179 (14 : Int32).toNatClampNeg ((p4 >>> ((8 : Int32) &&& 31)) &&& (255 : Int32))) 178 2 (15 : Int32)) 179 (15 : Int32).toNatClampNeg ((p4 >>> ((0 : Int32) &&& 31)) &&& (255 : Int32))) 178 2 (16 : Int32)) 179 (16 : Int32).toNatClampNeg ((p5 >>> ((24 : Int32) &&& 31)) &&& (255 : Int32))) 178 2 (17 : Int32)) 179 (17 : Int32).toNatClampNeg ((p5 >>> ((16 : Int32) &&& 31)) &&& (255 : Int32))) 178 2 (18 : Int32)) 179 (18 : Int32).toNatClampNeg ((p5 >>> ((8 : Int32) &&& 31)) &&& (255 : Int32))) 178 2 (19 : Int32)) 179 (19 : Int32).toNatClampNeg ((p5 >>> ((0 : Int32) &&& 31)) &&& (255 : Int32))) 178 2 (20 : Int32)) (jv_u jx_L0 226 (0 : Int32).toNatClampNeg (20 : Int64)) (jx_R 227)) 227 1572950 (some (.int (0 : Int32)), (jv_H (jx_K 227) (jv_u (jv_u (jv_u (jv_u (jv_u (jv_u (jv_u (jv_u (jv_u (jv_u (jv_u (jv_u (jv_u (jv_u (jv_u (jv_u (jv_u (jv_u (jv_u (jv_u (jv_u (jv_u (jv_u (jv_u (jv_u (jv_u (jv_u (jv_u (jv_u (jv_u (jv_u (jv_u (jv_u (jv_u (jv_u (jv_u (jv_u (jv_u (jv_u (jv_u (jv_u (jv_u (jv_u (jv_u (jv_u (jv_u (jv_u (jv_u (jv_u (jv_u (jv_u (jv_u (jv_u (jv_u (jv_u (jv_u (jv_u (jv_u (jv_u (jv_u (jv_u (jv_u (jv_u (jv_u (jv_u (jv_u (jv_u (jv_u (jv_u (jv_u (jv_u (jv_u (jv_u (jv_u (jv_u (jv_u (jv_u (jv_u (jv_u (jv_u (jv_u jx_If 1 (0 : Int32).toNatClampNeg (p1 >>> ((24 : Int32) &&& 31)).toInt8.toInt32.toInt8.toInt32) 0 1 (1 : Int32)) 1 (1 : Int32).toNatClampNeg (p1 >>> ((16 : Int32) &&& 31)).toInt8.toInt32.toInt8.toInt32) 0 1 (2 : Int32)) 1 (2 : Int32).toNatClampNeg (p1 >>> ((8 : Int32) &&& 31)).toInt8.toInt32.toInt8.toInt32) 0 1 (3 : Int32)) 1 (3 : Int32).toNatClampNeg (p1 >>> ((0 : Int32) &&& 31)).toInt8.toInt32.toInt8.toInt32) 0 1 (4 : Int32)) 1 (4 : Int32).toNatClampNeg (p2 >>> ((24 : Int32) &&& 31)).toInt8.toInt32.toInt8.toInt32) 0 1 (5 : Int32)) 1 (5 : Int32).toNatClampNeg (p2 >>> ((16 : Int32) &&& 31)).toInt8.toInt32.toInt8.toInt32) 0 1 (6 : Int32)) 1 (6 : Int32).toNatClampNeg (p2 >>> ((8 : Int32) &&& 31)).toInt8.toInt32.toInt8.toInt32) 0 1 (7 : Int32)) 1 (7 : Int32).toNatClampNeg (p2 >>> ((0 : Int32) &&& 31)).toInt8.toInt32.toInt8.toInt32) 0 1 (8 : Int32)) 1 (8 : Int32).toNatClampNeg (p3 >>> ((24 : Int32) &&& 31)).toInt8.toInt32.toInt8.toInt32) 0 1 (9 : Int32)) 1 (9 : Int32).toNatClampNeg (p3 >>> ((16 : Int32) &&& 31)).toInt8.toInt32.toInt8.toInt32) 0 1 (10 : Int32)) 1 (10 : Int32).toNatClampNeg (p3 >>> ((8 : Int32) &&& 31)).toInt8.toInt32.toInt8.toInt32) 0 1 (11 : Int32)) 1 (11 : Int32).toNatClampNeg (p3 >>> ((0 : Int32) &&& 31)).toInt8.toInt32.toInt8.toInt32) 0 1 (12 : Int32)) 1 (12 : Int32).toNatClampNeg (p4 >>> ((24 : Int32) &&& 31)).toInt8.toInt32.toInt8.toInt32) 0 1 (13 : Int32)) 1 (13 : Int32).toNatClampNeg (p4 >>> ((16 : Int32) &&& 31)).toInt8.toInt32.toInt8.toInt32) 0 1 (14 : Int32)) 1 (14 : Int32).toNatClampNeg (p4 >>> ((8 : Int32) &&& 31)).toInt8.toInt32.toInt8.toInt32) 0 1 (15 : Int32)) 1 (15 : Int32).toNatClampNeg (p4 >>> ((0 : Int32) &&& 31)).toInt8.toInt32.toInt8.toInt32) 0 1 (16 : Int32)) 1 (16 : Int32).toNatClampNeg (p5 >>> ((24 : Int32) &&& 31)).toInt8.toInt32.toInt8.toInt32) 0 1 (17 : Int32)) 1 (17 : Int32).toNatClampNeg (p5 >>> ((16 : Int32) &&& 31)).toInt8.toInt32.toInt8.toInt32) 0 1 (18 : Int32)) 1 (18 : Int32).toNatClampNeg (p5 >>> ((8 : Int32) &&& 31)).toInt8.toInt32.toInt8.toInt32) 0 1 (19 : Int32)) 1 (19 : Int32).toNatClampNeg (p5 >>> ((0 : Int32) &&& 31)).toInt8.toInt32.toInt8.toInt32) 0 1 (20 : Int32)) 178 0 (0 : Int32)) 179 (0 : Int32).toNatClampNeg ((p1 >>> ((24 : Int32) &&& 31)) &&& (255 : Int32))) 178 2 (1 : Int32)) 179 (1 : Int32).toNatClampNeg ((p1 >>> ((16 : Int32) &&& 31)) &&& (255 : Int32))) 178 2 (2 : Int32)) 179 (2 : Int32).toNatClampNeg ((p1 >>> ((8 : Int32) &&& 31)) &&& (255 : Int32))) 178 2 (3 : Int32)) 179 (3 : Int32).toNatClampNeg ((p1 >>> ((0 : Int32) &&& 31)) &&& (255 : Int32))) 178 2 (4 : Int32)) 179 (4 : Int32).toNatClampNeg ((p2 >>> ((24 : Int32) &&& 31)) &&& (255 : Int32))) 178 2 (5 : Int32)) 179 (5 : Int32).toNatClampNeg ((p2 >>> ((16 : Int32) &&& 31)) &&& (255 : Int32))) 178 2 (6 : Int32)) 179 (6 : Int32).toNatClampNeg ((p2 >>> ((8 : Int32) &&& 31)) &&& (255 : Int32))) 178 2 (7 : Int32)) 179 (7 : Int32).toNatClampNeg ((p2 >>> ((0 : Int32) &&& 31)) &&& (255 : Int32))) 178 2 (8 : Int32)) 179 (8 : Int32).toNatClampNeg ((p3 >>> ((24 : Int32) &&& 31)) &&& (255 : Int32))) 178 2 (9 : Int32)) 179 (9 : Int32).toNatClampNeg ((p3 >>> ((16 : Int32) &&& 31)) &&& (255 : Int32))) 178 2 (10 : Int32)) 179 (10 : Int32).toNatClampNeg ((p3 >>> ((8 : Int32) &&& 31)) &&& (255 : Int32))) 178 2 (11 : Int32)) 179 (11 : Int32).toNatClampNeg ((p3 >>> ((0 : Int32) &&& 31)) &&& (255 : Int32))) 178 2 (12 : Int32)) 179 (12 : Int32).toNatClampNeg ((p4 >>> ((24 : Int32) &&& 31)) &&& (255 : Int32))) 178 2 (13 : Int32)) 179 (13 : Int32).toNatClampNeg ((p4 >>> ((16 : Int32) &&& 31)) &&& (255 : Int32))) 178 2 (14 : Int32)) 179 (14 : Int32).toNatClampNeg ((p4 >>> ((8 : Int32) &&& 31)) &&& (255 : Int32))) 178 2 (15 : Int32)) 179 (15 : Int32).toNatClampNeg ((p4 >>> ((0 : Int32) &&& 31)) &&& (255 : Int32))) 178 2 (16 : Int32)) 179 (16 : Int32).toNatClampNeg ((p5 >>> ((24 : Int32) &&& 31)) &&& (255 : Int32))) 178 2 (17 : Int32)) 179 (17 : Int32).toNatClampNeg ((p5 >>> ((16 : Int32) &&& 31)) &&& (255 : Int32))) 178 2 (18 : Int32)) 179 (18 : Int32).toNatClampNeg ((p5 >>> ((8 : Int32) &&& 31)) &&& (255 : Int32))) 178 2 (19 : Int32)) 179 (19 : Int32).toNatClampNeg ((p5 >>> ((0 : Int32) &&& 31)) &&& (255 : Int32))) 178 2 (20 : Int32)) (jv_u jx_L0 226 (0 : Int32).toNatClampNeg (20 : Int64)) (jx_R 227)), 227, 1572950) := by
  show jv_Ev 350 0 [(0, .ref 178)] [] (jv_H (jx_K 227) (jv_u (jv_u (jv_u (jv_u (jv_u (jv_u (jv_u (jv_u (jv_u (jv_u (jv_u (jv_u (jv_u (jv_u (jv_u (jv_u (jv_u (jv_u (jv_u (jv_u (jv_u (jv_u (jv_u (jv_u (jv_u (jv_u (jv_u (jv_u (jv_u (jv_u (jv_u (jv_u (jv_u (jv_u (jv_u (jv_u (jv_u (jv_u (jv_u (jv_u (jv_u (jv_u (jv_u (jv_u (jv_u (jv_u (jv_u (jv_u (jv_u (jv_u (jv_u (jv_u (jv_u (jv_u (jv_u (jv_u (jv_u (jv_u (jv_u (jv_u (jv_u (jv_u (jv_u (jv_u (jv_u (jv_u (jv_u (jv_u (jv_u (jv_u (jv_u (jv_u (jv_u (jv_u (jv_u (jv_u (jv_u (jv_u (jv_u (jv_u (jv_u jx_If 1 (0 : Int32).toNatClampNeg (p1 >>> ((24 : Int32) &&& 31)).toInt8.toInt32.toInt8.toInt32) 0 1 (1 : Int32)) 1 (1 : Int32).toNatClampNeg (p1 >>> ((16 : Int32) &&& 31)).toInt8.toInt32.toInt8.toInt32) 0 1 (2 : Int32)) 1 (2 : Int32).toNatClampNeg (p1 >>> ((8 : Int32) &&& 31)).toInt8.toInt32.toInt8.toInt32) 0 1 (3 : Int32)) 1 (3 : Int32).toNatClampNeg (p1 >>> ((0 : Int32) &&& 31)).toInt8.toInt32.toInt8.toInt32) 0 1 (4 : Int32)) 1 (4 : Int32).toNatClampNeg (p2 >>> ((24 : Int32) &&& 31)).toInt8.toInt32.toInt8.toInt32) 0 1 (5 : Int32)) 1 (5 : Int32).toNatClampNeg (p2 >>> ((16 : Int32) &&& 31)).toInt8.toInt32.toInt8.toInt32) 0 1 (6 : Int32)) 1 (6 : Int32).toNatClampNeg (p2 >>> ((8 : Int32) &&& 31)).toInt8.toInt32.toInt8.toInt32) 0 1 (7 : Int32)) 1 (7 : Int32).toNatClampNeg (p2 >>> ((0 : Int32) &&& 31)).toInt8.toInt32.toInt8.toInt32) 0 1 (8 : Int32)) 1 (8 : Int32).toNatClampNeg (p3 >>> ((24 : Int32) &&& 31)).toInt8.toInt32.toInt8.toInt32) 0 1 (9 : Int32)) 1 (9 : Int32).toNatClampNeg (p3 >>> ((16 : Int32) &&& 31)).toInt8.toInt32.toInt8.toInt32) 0 1 (10 : Int32)) 1 (10 : Int32).toNatClampNeg (p3 >>> ((8 : Int32) &&& 31)).toInt8.toInt32.toInt8.toInt32) 0 1 (11 : Int32)) 1 (11 : Int32).toNatClampNeg (p3 >>> ((0 : Int32) &&& 31)).toInt8.toInt32.toInt8.toInt32) 0 1 (12 : Int32)) 1 (12 : Int32).toNatClampNeg (p4 >>> ((24 : Int32) &&& 31)).toInt8.toInt32.toInt8.toInt32) 0 1 (13 : Int32)) 1 (13 : Int32).toNatClampNeg (p4 >>> ((16 : Int32) &&& 31)).toInt8.toInt32.toInt8.toInt32) 0 1 (14 : Int32)) 1 (14 : Int32).toNatClampNeg (p4 >>> ((8 : Int32) &&& 31)).toInt8.toInt32.toInt8.toInt32) 0 1 (15 : Int32)) 1 (15 : Int32).toNatClampNeg (p4 >>> ((0 : Int32) &&& 31)).toInt8.toInt32.toInt8.toInt32) 0 1 (16 : Int32)) 1 (16 : Int32).toNatClampNeg (p5 >>> ((24 : Int32) &&& 31)).toInt8.toInt32.toInt8.toInt32) 0 1 (17 : Int32)) 1 (17 : Int32).toNatClampNeg (p5 >>> ((16 : Int32) &&& 31)).toInt8.toInt32.toInt8.toInt32) 0 1 (18 : Int32)) 1 (18 : Int32).toNatClampNeg (p5 >>> ((8 : Int32) &&& 31)).toInt8.toInt32.toInt8.toInt32) 0 1 (19 : Int32)) 1 (19 : Int32).toNatClampNeg (p5 >>> ((0 : Int32) &&& 31)).toInt8.toInt32.toInt8.toInt32) 0 1 (20 : Int32)) 178 0 (0 : Int32)) 179 (0 : Int32).toNatClampNeg ((p1 >>> ((24 : Int32) &&& 31)) &&& (255 : Int32))) 178 2 (1 : Int32)) 179 (1 : Int32).toNatClampNeg ((p1 >>> ((16 : Int32) &&& 31)) &&& (255 : Int32))) 178 2 (2 : Int32)) 179 (2 : Int32).toNatClampNeg ((p1 >>> ((8 : Int32) &&& 31)) &&& (255 : Int32))) 178 2 (3 : Int32)) 179 (3 : Int32).toNatClampNeg ((p1 >>> ((0 : Int32) &&& 31)) &&& (255 : Int32))) 178 2 (4 : Int32)) 179 (4 : Int32).toNatClampNeg ((p2 >>> ((24 : Int32) &&& 31)) &&& (255 : Int32))) 178 2 (5 : Int32)) 179 (5 : Int32).toNatClampNeg ((p2 >>> ((16 : Int32) &&& 31)) &&& (255 : Int32))) 178 2 (6 : Int32)) 179 (6 : Int32).toNatClampNeg ((p2 >>> ((8 : Int32) &&& 31)) &&& (255 : Int32))) 178 2 (7 : Int32)) 179 (7 : Int32).toNatClampNeg ((p2 >>> ((0 : Int32) &&& 31)) &&& (255 : Int32))) 178 2 (8 : Int32)) 179 (8 : Int32).toNatClampNeg ((p3 >>> ((24 : Int32) &&& 31)) &&& (255 : Int32))) 178 2 (9 : Int32)) 179 (9 : Int32).toNatClampNeg ((p3 >>> ((16 : Int32) &&& 31)) &&& (255 : Int32))) 178 2 (10 : Int32)) 179 (10 : Int32).toNatClampNeg ((p3 >>> ((8 : Int32) &&& 31)) &&& (255 : Int32))) 178 2 (11 : Int32)) 179 (11 : Int32).toNatClampNeg ((p3 >>> ((0 : Int32) &&& 31)) &&& (255 : Int32))) 178 2 (12 : Int32)) 179 (12 : Int32).toNatClampNeg ((p4 >>> ((24 : Int32) &&& 31)) &&& (255 : Int32))) 178 2 (13 : Int32)) 179 (13 : Int32).toNatClampNeg ((p4 >>> ((16 : Int32) &&& 31)) &&& (255 : Int32))) 178 2 (14 : Int32)) 179 (14 : Int32).toNatClampNeg ((p4 >>> ((8 : Int32) &&& 31)) &&& (255 : Int32))) 178 2 (15 : Int32)) 179 (15 : Int32).toNatClampNeg ((p4 >>> ((0 : Int32) &&& 31)) &&& (255 : Int32))) 178 2 (16 : Int32)) 179 (16 : Int32).toNatClampNeg ((p5 >>> ((24 : Int32) &&& 31)) &&& (255 : Int32))) 178 2 (17 : Int32)) 179 (17 : Int32).toNatClampNeg ((p5 >>> ((16 : Int32) &&& 31)) &&& (255 : Int32))) 178 2 (18 : Int32)) 179 (18 : Int32).toNatClampNeg ((p5 >>> ((8 : Int32) &&& 31)) &&& (255 : Int32))) 178 2 (19 : Int32)) 179 (19 : Int32).toNatClampNeg ((p5 >>> ((0 : Int32) &&& 31)) &&& (255 : Int32))) 178 2 (20 : Int32)) (jv_u jx_L0 226 (0 : Int32).toNatClampNeg (20 : Int64)) (jx_R 227)) 227 1572950 _
  refine jv_Ev.steps jv_i350 1 (pc' := 1) (l' := [(0, .ref 178)]) (st' := [.ref 178]) rfl ?_
  refine jv_Ev.m jv_i350 (pc' := 4) (st' := [.int (0 : Int32)]) rfl rfl (jv_m_getI rfl rfl rfl rfl) ?_
  exact jv_Ev.ret jv_i350 rfl rfl

set_option maxRecDepth 100000 in
/-- the law: case 0, one way -/
theorem jx_l1 (p0 : Int32) (p1 : Int32) (p2 : Int32) (p3 : Int32) (p4 : Int32) (p5 : Int32)  (hsw : p0 &&& (31 : Int32) = (0 : Int32)) {p : Program} {l : Launch} {e : Env} {R : Room} {s : State} {m : MethodId} {args : Array Value} {below : List Frame} {meth : Method} {c : Code} {E : jv_Env} {Q : State → Prop} (hTb : jv_TOk jv_Tb) (hT2 : jx_T2Ok) (hl : l.stackTraces = false) (F : jx_F jv_T2 439 E p R s m args meth c) (hZ : jx_Z E s) (hRc : R.cells = 600002) (hRs : R.slots = 7302232) {bb : Nat} {xs : Nat → Int32} (hX : va_X bb 6 xs s E.2.2.2.2) (hbB : bb < E.2.2.2.1) (hE2 : E.1 1000002 = bb) (hQ : ∀ (l0 : jv_L) (G : jv_G) (n sl : Nat), n ≤ 600002 → sl ≤ 7302232 → jw p l e R s m args below meth c E 8 0 0 Q 1532 l0 [.int (1 : Int32)] G n sl) (q0 : xs 0 = p0) (q1 : xs 1 = p1) (q2 : xs 2 = p2) (q3 : xs 3 = p3) (q4 : xs 4 = p4) (q5 : xs 5 = p5) : jw p l e R s m args below meth c E 8 0 0 Q 33 [(0, .ref 1000002), (1, .ref 0), (2, .ref 178), (3, .ref 226), (4, .int (0 : Int32))] [] (jv_H (jx_K 227) jx_If jx_L0 (jx_R 227)) 227 1572950 := by
  refine jw.steps F jx_i439 2 (pc' := 36) (l' := [(0, .ref 1000002), (1, .ref 0), (2, .ref 178), (3, .ref 226), (4, .int (0 : Int32))]) (st' := [.int (0 : Int32), .ref 1000002]) rfl ?_
  refine jw.sld F jx_i439 hX hbB hE2 (pc' := 37) rfl rfl (show vp_in (nI 0) 6 from vp_in_nI (by decide) (by decide)) q0 rfl ?_
  refine jw.steps F jx_i439 2 (pc' := 40) (l' := [(0, .ref 1000002), (1, .ref 0), (2, .ref 178), (3, .ref 226), (4, .int (0 : Int32))]) (st' := [.int (p0 &&& (31 : Int32))]) rfl ?_
  refine jw.br F jx_i439 (pc' := 164) (st' := []) rfl (by rw [hsw]; rfl) ?_
  refine jw.steps F jx_i439 5 (pc' := 170) (l' := [(0, .ref 1000002), (1, .ref 0), (2, .ref 178), (3, .ref 226), (4, .int (0 : Int32))]) (st' := [.int (1 : Int32), .ref 1000002, .ref 0]) rfl ?_
  refine jw.sld F jx_i439 hX hbB hE2 (pc' := 171) rfl rfl (show vp_in (nI 1) 6 from vp_in_nI (by decide) (by decide)) q1 rfl ?_
  refine jw.steps F jx_i439 4 (pc' := 176) (l' := [(0, .ref 1000002), (1, .ref 0), (2, .ref 178), (3, .ref 226), (4, .int (0 : Int32))]) (st' := [.int (2 : Int32), .ref 1000002, .int p1, .ref 0]) rfl ?_
  refine jw.sld F jx_i439 hX hbB hE2 (pc' := 177) rfl rfl (show vp_in (nI 2) 6 from vp_in_nI (by decide) (by decide)) q2 rfl ?_
  refine jw.steps F jx_i439 4 (pc' := 182) (l' := [(0, .ref 1000002), (1, .ref 0), (2, .ref 178), (3, .ref 226), (4, .int (0 : Int32))]) (st' := [.int (3 : Int32), .ref 1000002, .int p2, .int p1, .ref 0]) rfl ?_
  refine jw.sld F jx_i439 hX hbB hE2 (pc' := 183) rfl rfl (show vp_in (nI 3) 6 from vp_in_nI (by decide) (by decide)) q3 rfl ?_
  refine jw.steps F jx_i439 4 (pc' := 188) (l' := [(0, .ref 1000002), (1, .ref 0), (2, .ref 178), (3, .ref 226), (4, .int (0 : Int32))]) (st' := [.int (4 : Int32), .ref 1000002, .int p3, .int p2, .int p1, .ref 0]) rfl ?_
  refine jw.sld F jx_i439 hX hbB hE2 (pc' := 189) rfl rfl (show vp_in (nI 4) 6 from vp_in_nI (by decide) (by decide)) q4 rfl ?_
  refine jw.steps F jx_i439 4 (pc' := 194) (l' := [(0, .ref 1000002), (1, .ref 0), (2, .ref 178), (3, .ref 226), (4, .int (0 : Int32))]) (st' := [.int (5 : Int32), .ref 1000002, .int p4, .int p3, .int p2, .int p1, .ref 0]) rfl ?_
  refine jw.sld F jx_i439 hX hbB hE2 (pc' := 195) rfl rfl (show vp_in (nI 5) 6 from vp_in_nI (by decide) (by decide)) q5 rfl ?_
  refine jw.steps F jx_i439 1 (pc' := 196) (l' := [(0, .ref 1000002), (1, .ref 0), (2, .ref 178), (3, .ref 226), (4, .int (0 : Int32))]) (st' := [.ref 226, .int p5, .int p4, .int p3, .int p2, .int p1, .ref 0]) rfl ?_
  refine jw.wr F hl hZ rfl jx_i439 jx_i440 [.ref 0, .int p1, .int p2, .int p3, .int p4, .int p5, .ref 226] (pc' := 199) (S' := [.int (0 : Int32)]) rfl (List.mem_of_getElem? (i := 0) rfl) (List.mem_of_getElem? (i := 0) rfl) rfl rfl rfl (jx_w7 hTb hT2 p0 p1 p2 p3 p4 p5 ) (by omega) (by omega) (by omega) (by omega) rfl rfl ?_
  refine jw.steps F jx_i439 6 (pc' := 207) (l' := [(5, .int (0 : Int32)), (0, .ref 1000002), (1, .ref 0), (2, .ref 178), (3, .ref 226), (4, .int (0 : Int32))]) (st' := [.int (1 : Int32), .ref 1000002, .ref 178]) rfl ?_
  refine jw.sld F jx_i439 hX hbB hE2 (pc' := 208) rfl rfl (show vp_in (nI 1) 6 from vp_in_nI (by decide) (by decide)) q1 rfl ?_
  refine jw.steps F jx_i439 4 (pc' := 213) (l' := [(5, .int (0 : Int32)), (0, .ref 1000002), (1, .ref 0), (2, .ref 178), (3, .ref 226), (4, .int (0 : Int32))]) (st' := [.int (2 : Int32), .ref 1000002, .int p1, .ref 178]) rfl ?_
  refine jw.sld F jx_i439 hX hbB hE2 (pc' := 214) rfl rfl (show vp_in (nI 2) 6 from vp_in_nI (by decide) (by decide)) q2 rfl ?_
  refine jw.steps F jx_i439 4 (pc' := 219) (l' := [(5, .int (0 : Int32)), (0, .ref 1000002), (1, .ref 0), (2, .ref 178), (3, .ref 226), (4, .int (0 : Int32))]) (st' := [.int (3 : Int32), .ref 1000002, .int p2, .int p1, .ref 178]) rfl ?_
  refine jw.sld F jx_i439 hX hbB hE2 (pc' := 220) rfl rfl (show vp_in (nI 3) 6 from vp_in_nI (by decide) (by decide)) q3 rfl ?_
  refine jw.steps F jx_i439 4 (pc' := 225) (l' := [(5, .int (0 : Int32)), (0, .ref 1000002), (1, .ref 0), (2, .ref 178), (3, .ref 226), (4, .int (0 : Int32))]) (st' := [.int (4 : Int32), .ref 1000002, .int p3, .int p2, .int p1, .ref 178]) rfl ?_
  refine jw.sld F jx_i439 hX hbB hE2 (pc' := 226) rfl rfl (show vp_in (nI 4) 6 from vp_in_nI (by decide) (by decide)) q4 rfl ?_
  refine jw.steps F jx_i439 4 (pc' := 231) (l' := [(5, .int (0 : Int32)), (0, .ref 1000002), (1, .ref 0), (2, .ref 178), (3, .ref 226), (4, .int (0 : Int32))]) (st' := [.int (5 : Int32), .ref 1000002, .int p4, .int p3, .int p2, .int p1, .ref 178]) rfl ?_
  refine jw.sld F jx_i439 hX hbB hE2 (pc' := 232) rfl rfl (show vp_in (nI 5) 6 from vp_in_nI (by decide) (by decide)) q5 rfl ?_
  refine jw.ca hTb F jx_i439 (pc' := 235) (S' := [.int (20 : Int32)]) rfl jv_i351 [.ref 178, .int p1, .int p2, .int p3, .int p4, .int p5] rfl rfl rfl rfl (jx_cal2 rfl (jv_H_at rfl) rfl rfl) rfl (jx_e8 p0 p1 p2 p3 p4 p5 ) (by omega) (by omega) rfl rfl ?_
  refine jw.steps F jx_i439 2 (pc' := 238) (l' := [(6, .int (20 : Int32)), (5, .int (0 : Int32)), (0, .ref 1000002), (1, .ref 0), (2, .ref 178), (3, .ref 226), (4, .int (0 : Int32))]) (st' := [.ref 178]) rfl ?_
  refine jw.ca hTb F jx_i439 (pc' := 241) (S' := [.int (0 : Int32)]) rfl jv_i350 [.ref 178] rfl rfl rfl rfl (jx_cal2 rfl (jv_H_at rfl) rfl rfl) rfl (jx_e9 p0 p1 p2 p3 p4 p5 ) (by omega) (by omega) rfl rfl ?_
  refine jw.steps F jx_i439 1 (pc' := 243) (l' := [(6, .int (20 : Int32)), (5, .int (0 : Int32)), (0, .ref 1000002), (1, .ref 0), (2, .ref 178), (3, .ref 226), (4, .int (0 : Int32))]) (st' := [.int (0 : Int32), .int (0 : Int32)]) rfl ?_
  refine jw.br F jx_i439 (pc' := 248) (st' := []) rfl (jv_bc_eq.trans (jx_got (by decide))) ?_
  refine jw.steps F jx_i439 1 (pc' := 250) (l' := [(6, .int (20 : Int32)), (5, .int (0 : Int32)), (0, .ref 1000002), (1, .ref 0), (2, .ref 178), (3, .ref 226), (4, .int (0 : Int32))]) (st' := [.int (0 : Int32)]) rfl ?_
  refine jw.br F jx_i439 (pc' := 253) (st' := []) rfl (jv_bi_ne.trans (jx_gof (by decide))) ?_
  refine jw.steps F jx_i439 2 (pc' := 255) (l' := [(6, .int (20 : Int32)), (5, .int (0 : Int32)), (0, .ref 1000002), (1, .ref 0), (2, .ref 178), (3, .ref 226), (4, .int (0 : Int32))]) (st' := [.int (0 : Int32), .ref 226]) rfl ?_
  refine jw.me F jx_i439 (pc' := 256) (st' := [.long (20 : Int64)]) rfl rfl (jv_m_laldv rfl rfl (by decide) rfl rfl) ?_
  refine jw.steps F jx_i439 3 (pc' := 260) (l' := [(6, .int (20 : Int32)), (5, .int (0 : Int32)), (0, .ref 1000002), (1, .ref 0), (2, .ref 178), (3, .ref 226), (4, .int (0 : Int32))]) (st' := [.int (0 : Int32)]) rfl ?_
  refine jw.br F jx_i439 (pc' := 265) (st' := []) rfl (jv_bi_eq.trans (jx_got (by decide))) ?_
  refine jw.steps F jx_i439 5 (pc' := 26) (l' := [(4, .int (6 : Int32)), (6, .int (20 : Int32)), (5, .int (0 : Int32)), (0, .ref 1000002), (1, .ref 0), (2, .ref 178), (3, .ref 226)]) (st' := [.ref 1000002, .int (6 : Int32)]) rfl ?_
  refine jw.slen F jx_i439 hX hbB hE2 (pc' := 27) rfl rfl rfl ?_
  refine jw.steps F jx_i439 2 (pc' := 30) (l' := [(4, .int (6 : Int32)), (6, .int (20 : Int32)), (5, .int (0 : Int32)), (0, .ref 1000002), (1, .ref 0), (2, .ref 178), (3, .ref 226)]) (st' := [.int (0 : Int32), .int (6 : Int32)]) rfl ?_
  refine jw.br F jx_i439 (pc' := 1531) (st' := []) rfl (jv_bc_gt.trans (jx_got (by decide))) ?_
  refine jw.steps F jx_i439 1 (pc' := 1532) (l' := [(4, .int (6 : Int32)), (6, .int (20 : Int32)), (5, .int (0 : Int32)), (0, .ref 1000002), (1, .ref 0), (2, .ref 178), (3, .ref 226)]) (st' := [.int (1 : Int32)]) rfl ?_
  exact hQ _ _ _ _ (by omega) (by omega)

set_option maxRecDepth 100000 in
/-- the law: case 0 -/
theorem jx_case0 (p0 : Int32) (p1 : Int32) (p2 : Int32) (p3 : Int32) (p4 : Int32) (p5 : Int32) (hsw : p0 &&& (31 : Int32) = (0 : Int32)) {p : Program} {l : Launch} {e : Env} {R : Room} {s : State} {m : MethodId} {args : Array Value} {below : List Frame} {meth : Method} {c : Code} {E : jv_Env} {Q : State → Prop} (hTb : jv_TOk jv_Tb) (hT2 : jx_T2Ok) (hl : l.stackTraces = false) (F : jx_F jv_T2 439 E p R s m args meth c) (hZ : jx_Z E s) (hRc : R.cells = 600002) (hRs : R.slots = 7302232) {bb : Nat} {xs : Nat → Int32} (hX : va_X bb 6 xs s E.2.2.2.2) (hbB : bb < E.2.2.2.1) (hE2 : E.1 1000002 = bb) (hQ : ∀ (l0 : jv_L) (G : jv_G) (n sl : Nat), n ≤ 600002 → sl ≤ 7302232 → jw p l e R s m args below meth c E 8 0 0 Q 1532 l0 [.int (1 : Int32)] G n sl) (q0 : xs 0 = p0) (q1 : xs 1 = p1) (q2 : xs 2 = p2) (q3 : xs 3 = p3) (q4 : xs 4 = p4) (q5 : xs 5 = p5) : jw p l e R s m args below meth c E 8 0 0 Q 33 [(0, .ref 1000002), (1, .ref 0), (2, .ref 178), (3, .ref 226), (4, .int (0 : Int32))] [] (jv_H (jx_K 227) jx_If jx_L0 (jx_R 227)) 227 1572950 := by
  exact jx_l1 p0 p1 p2 p3 p4 p5  hsw hTb hT2 hl F hZ hRc hRs hX hbB hE2 hQ q0 q1 q2 q3 q4 q5

set_option maxRecDepth 100000 in
theorem jv_i189 : jv_I 189 1 (some .int) 0 0 jv_c189 := ⟨rfl, rfl, rfl, rfl, rfl⟩
set_option maxRecDepth 100000 in
/-- ProgramBox.refused -/
theorem jx_e10 (p0 : Int32) (p1 : Int32) (p2 : Int32) (p3 : Int32) (p4 : Int32) (p5 : Int32)  : jv_Ms 189 [.ref 0] (jv_H (jx_K 227) jx_If jx_L0 (jx_R 227)) 227 1572950 (some (.int (-1 : Int32)), (jv_H (jx_K 227) jx_If jx_L0 (jx_R 227)), 227, 1572950) := by
  show jv_Ev 189 0 [(0, .ref 0)] [] (jv_H (jx_K 227) jx_If jx_L0 (jx_R 227)) 227 1572950 _
  refine jv_Ev.steps jv_i189 1 (pc' := 1) (l' := [(0, .ref 0)]) (st' := [.ref 0]) rfl ?_
  refine jv_Ev.m jv_i189 (pc' := 4) (st' := [.int (-1 : Int32)]) rfl rfl (jv_m_getI rfl rfl rfl rfl) ?_
  exact jv_Ev.ret jv_i189 rfl rfl

set_option maxRecDepth 100000 in
theorem jv_i355 : jv_I 355 1 (some .int) 0 0 jv_c355 := ⟨rfl, rfl, rfl, rfl, rfl⟩
set_option maxRecDepth 100000 in
/-- ProgramBoxModel.refused -/
theorem jx_e11 (p0 : Int32) (p1 : Int32) (p2 : Int32) (p3 : Int32) (p4 : Int32) (p5 : Int32)  : jv_Ms 355 [.ref 178] (jv_H (jx_K 227) jx_If jx_L0 (jx_R 227)) 227 1572950 (some (.int (-1 : Int32)), (jv_H (jx_K 227) (jv_u jx_If 178 0 (0 : Int32)) jx_L0 (jx_R 227)), 227, 1572950) := by
  show jv_Ev 355 0 [(0, .ref 178)] [] (jv_H (jx_K 227) jx_If jx_L0 (jx_R 227)) 227 1572950 _
  refine jv_Ev.steps jv_i355 2 (pc' := 2) (l' := [(0, .ref 178)]) (st' := [.int (0 : Int32), .ref 178]) rfl ?_
  refine jv_Ev.m jv_i355 (pc' := 5) (st' := []) rfl rfl (jv_m_putI rfl rfl rfl rfl rfl) ?_
  refine jv_Ev.steps jv_i355 1 (pc' := 6) (l' := [(0, .ref 178)]) (st' := [.ref 178]) rfl ?_
  refine jv_Ev.m jv_i355 (pc' := 9) (st' := [.int (-1 : Int32)]) rfl rfl (jv_m_getI rfl rfl rfl rfl) ?_
  exact jv_Ev.ret jv_i355 rfl rfl

set_option maxRecDepth 100000 in
/-- the law: case 4, one way -/
theorem jx_l2 (p0 : Int32) (p1 : Int32) (p2 : Int32) (p3 : Int32) (p4 : Int32) (p5 : Int32)  (hsw : p0 &&& (31 : Int32) = (4 : Int32)) {p : Program} {l : Launch} {e : Env} {R : Room} {s : State} {m : MethodId} {args : Array Value} {below : List Frame} {meth : Method} {c : Code} {E : jv_Env} {Q : State → Prop} (hTb : jv_TOk jv_Tb) (hT2 : jx_T2Ok) (hl : l.stackTraces = false) (F : jx_F jv_T2 439 E p R s m args meth c) (hZ : jx_Z E s) (hRc : R.cells = 600002) (hRs : R.slots = 7302232) {bb : Nat} {xs : Nat → Int32} (hX : va_X bb 6 xs s E.2.2.2.2) (hbB : bb < E.2.2.2.1) (hE2 : E.1 1000002 = bb) (hQ : ∀ (l0 : jv_L) (G : jv_G) (n sl : Nat), n ≤ 600002 → sl ≤ 7302232 → jw p l e R s m args below meth c E 8 0 0 Q 1532 l0 [.int (1 : Int32)] G n sl) (q0 : xs 0 = p0) (q1 : xs 1 = p1) (q2 : xs 2 = p2) (q3 : xs 3 = p3) (q4 : xs 4 = p4) (q5 : xs 5 = p5) : jw p l e R s m args below meth c E 8 0 0 Q 33 [(0, .ref 1000002), (1, .ref 0), (2, .ref 178), (3, .ref 226), (4, .int (0 : Int32))] [] (jv_H (jx_K 227) jx_If jx_L0 (jx_R 227)) 227 1572950 := by
  refine jw.steps F jx_i439 2 (pc' := 36) (l' := [(0, .ref 1000002), (1, .ref 0), (2, .ref 178), (3, .ref 226), (4, .int (0 : Int32))]) (st' := [.int (0 : Int32), .ref 1000002]) rfl ?_
  refine jw.sld F jx_i439 hX hbB hE2 (pc' := 37) rfl rfl (show vp_in (nI 0) 6 from vp_in_nI (by decide) (by decide)) q0 rfl ?_
  refine jw.steps F jx_i439 2 (pc' := 40) (l' := [(0, .ref 1000002), (1, .ref 0), (2, .ref 178), (3, .ref 226), (4, .int (0 : Int32))]) (st' := [.int (p0 &&& (31 : Int32))]) rfl ?_
  refine jw.br F jx_i439 (pc' := 440) (st' := []) rfl (by rw [hsw]; rfl) ?_
  refine jw.steps F jx_i439 1 (pc' := 441) (l' := [(0, .ref 1000002), (1, .ref 0), (2, .ref 178), (3, .ref 226), (4, .int (0 : Int32))]) (st' := [.ref 0]) rfl ?_
  refine jw.ca hTb F jx_i439 (pc' := 444) (S' := [.int (-1 : Int32)]) rfl jv_i189 [.ref 0] rfl rfl rfl rfl (jx_cal2 rfl (jv_H_at rfl) rfl rfl) rfl (jx_e10 p0 p1 p2 p3 p4 p5 ) (by omega) (by omega) rfl rfl ?_
  refine jw.steps F jx_i439 1 (pc' := 445) (l' := [(0, .ref 1000002), (1, .ref 0), (2, .ref 178), (3, .ref 226), (4, .int (0 : Int32))]) (st' := [.ref 178, .int (-1 : Int32)]) rfl ?_
  refine jw.ca hTb F jx_i439 (pc' := 448) (S' := [.int (-1 : Int32), .int (-1 : Int32)]) rfl jv_i355 [.ref 178] rfl rfl rfl rfl (jx_cal2 rfl (jv_H_at rfl) rfl rfl) rfl (jx_e11 p0 p1 p2 p3 p4 p5 ) (by omega) (by omega) rfl rfl ?_
  refine jw.br F jx_i439 (pc' := 1525) (st' := []) rfl (jv_bc_eq.trans (jx_got (by decide))) ?_
  refine jw.steps F jx_i439 4 (pc' := 26) (l' := [(4, .int (6 : Int32)), (0, .ref 1000002), (1, .ref 0), (2, .ref 178), (3, .ref 226)]) (st' := [.ref 1000002, .int (6 : Int32)]) rfl ?_
  refine jw.slen F jx_i439 hX hbB hE2 (pc' := 27) rfl rfl rfl ?_
  refine jw.steps F jx_i439 2 (pc' := 30) (l' := [(4, .int (6 : Int32)), (0, .ref 1000002), (1, .ref 0), (2, .ref 178), (3, .ref 226)]) (st' := [.int (0 : Int32), .int (6 : Int32)]) rfl ?_
  refine jw.br F jx_i439 (pc' := 1531) (st' := []) rfl (jv_bc_gt.trans (jx_got (by decide))) ?_
  refine jw.steps F jx_i439 1 (pc' := 1532) (l' := [(4, .int (6 : Int32)), (0, .ref 1000002), (1, .ref 0), (2, .ref 178), (3, .ref 226)]) (st' := [.int (1 : Int32)]) rfl ?_
  exact hQ _ _ _ _ (by omega) (by omega)

set_option maxRecDepth 100000 in
/-- the law: case 4 -/
theorem jx_case4 (p0 : Int32) (p1 : Int32) (p2 : Int32) (p3 : Int32) (p4 : Int32) (p5 : Int32) (hsw : p0 &&& (31 : Int32) = (4 : Int32)) {p : Program} {l : Launch} {e : Env} {R : Room} {s : State} {m : MethodId} {args : Array Value} {below : List Frame} {meth : Method} {c : Code} {E : jv_Env} {Q : State → Prop} (hTb : jv_TOk jv_Tb) (hT2 : jx_T2Ok) (hl : l.stackTraces = false) (F : jx_F jv_T2 439 E p R s m args meth c) (hZ : jx_Z E s) (hRc : R.cells = 600002) (hRs : R.slots = 7302232) {bb : Nat} {xs : Nat → Int32} (hX : va_X bb 6 xs s E.2.2.2.2) (hbB : bb < E.2.2.2.1) (hE2 : E.1 1000002 = bb) (hQ : ∀ (l0 : jv_L) (G : jv_G) (n sl : Nat), n ≤ 600002 → sl ≤ 7302232 → jw p l e R s m args below meth c E 8 0 0 Q 1532 l0 [.int (1 : Int32)] G n sl) (q0 : xs 0 = p0) (q1 : xs 1 = p1) (q2 : xs 2 = p2) (q3 : xs 3 = p3) (q4 : xs 4 = p4) (q5 : xs 5 = p5) : jw p l e R s m args below meth c E 8 0 0 Q 33 [(0, .ref 1000002), (1, .ref 0), (2, .ref 178), (3, .ref 226), (4, .int (0 : Int32))] [] (jv_H (jx_K 227) jx_If jx_L0 (jx_R 227)) 227 1572950 := by
  exact jx_l2 p0 p1 p2 p3 p4 p5  hsw hTb hT2 hl F hZ hRc hRs hX hbB hE2 hQ q0 q1 q2 q3 q4 q5

set_option maxRecDepth 100000 in
theorem jv_i190 : jv_I 190 1 (some .int) 0 0 jv_c190 := ⟨rfl, rfl, rfl, rfl, rfl⟩
set_option maxRecDepth 100000 in
/-- ProgramBox.reason -/
theorem jx_e12 (p0 : Int32) (p1 : Int32) (p2 : Int32) (p3 : Int32) (p4 : Int32) (p5 : Int32)  : jv_Ms 190 [.ref 0] (jv_H (jx_K 227) jx_If jx_L0 (jx_R 227)) 227 1572950 (some (.int (0 : Int32)), (jv_H (jx_K 227) jx_If jx_L0 (jx_R 227)), 227, 1572950) := by
  show jv_Ev 190 0 [(0, .ref 0)] [] (jv_H (jx_K 227) jx_If jx_L0 (jx_R 227)) 227 1572950 _
  refine jv_Ev.steps jv_i190 1 (pc' := 1) (l' := [(0, .ref 0)]) (st' := [.ref 0]) rfl ?_
  refine jv_Ev.m jv_i190 (pc' := 4) (st' := [.int (0 : Int32)]) rfl rfl (jv_m_getI rfl rfl rfl rfl) ?_
  exact jv_Ev.ret jv_i190 rfl rfl

set_option maxRecDepth 100000 in
theorem jv_i356 : jv_I 356 1 (some .int) 0 0 jv_c356 := ⟨rfl, rfl, rfl, rfl, rfl⟩
set_option maxRecDepth 100000 in
/-- ProgramBoxModel.reason -/
theorem jx_e13 (p0 : Int32) (p1 : Int32) (p2 : Int32) (p3 : Int32) (p4 : Int32) (p5 : Int32)  : jv_Ms 356 [.ref 178] (jv_H (jx_K 227) jx_If jx_L0 (jx_R 227)) 227 1572950 (some (.int (0 : Int32)), (jv_H (jx_K 227) (jv_u jx_If 178 0 (0 : Int32)) jx_L0 (jx_R 227)), 227, 1572950) := by
  show jv_Ev 356 0 [(0, .ref 178)] [] (jv_H (jx_K 227) jx_If jx_L0 (jx_R 227)) 227 1572950 _
  refine jv_Ev.steps jv_i356 2 (pc' := 2) (l' := [(0, .ref 178)]) (st' := [.int (0 : Int32), .ref 178]) rfl ?_
  refine jv_Ev.m jv_i356 (pc' := 5) (st' := []) rfl rfl (jv_m_putI rfl rfl rfl rfl rfl) ?_
  refine jv_Ev.steps jv_i356 1 (pc' := 6) (l' := [(0, .ref 178)]) (st' := [.ref 178]) rfl ?_
  refine jv_Ev.m jv_i356 (pc' := 9) (st' := [.int (0 : Int32)]) rfl rfl (jv_m_getI rfl rfl rfl rfl) ?_
  exact jv_Ev.ret jv_i356 rfl rfl

set_option maxRecDepth 100000 in
/-- the law: case 5, one way -/
theorem jx_l3 (p0 : Int32) (p1 : Int32) (p2 : Int32) (p3 : Int32) (p4 : Int32) (p5 : Int32)  (hsw : p0 &&& (31 : Int32) = (5 : Int32)) {p : Program} {l : Launch} {e : Env} {R : Room} {s : State} {m : MethodId} {args : Array Value} {below : List Frame} {meth : Method} {c : Code} {E : jv_Env} {Q : State → Prop} (hTb : jv_TOk jv_Tb) (hT2 : jx_T2Ok) (hl : l.stackTraces = false) (F : jx_F jv_T2 439 E p R s m args meth c) (hZ : jx_Z E s) (hRc : R.cells = 600002) (hRs : R.slots = 7302232) {bb : Nat} {xs : Nat → Int32} (hX : va_X bb 6 xs s E.2.2.2.2) (hbB : bb < E.2.2.2.1) (hE2 : E.1 1000002 = bb) (hQ : ∀ (l0 : jv_L) (G : jv_G) (n sl : Nat), n ≤ 600002 → sl ≤ 7302232 → jw p l e R s m args below meth c E 8 0 0 Q 1532 l0 [.int (1 : Int32)] G n sl) (q0 : xs 0 = p0) (q1 : xs 1 = p1) (q2 : xs 2 = p2) (q3 : xs 3 = p3) (q4 : xs 4 = p4) (q5 : xs 5 = p5) : jw p l e R s m args below meth c E 8 0 0 Q 33 [(0, .ref 1000002), (1, .ref 0), (2, .ref 178), (3, .ref 226), (4, .int (0 : Int32))] [] (jv_H (jx_K 227) jx_If jx_L0 (jx_R 227)) 227 1572950 := by
  refine jw.steps F jx_i439 2 (pc' := 36) (l' := [(0, .ref 1000002), (1, .ref 0), (2, .ref 178), (3, .ref 226), (4, .int (0 : Int32))]) (st' := [.int (0 : Int32), .ref 1000002]) rfl ?_
  refine jw.sld F jx_i439 hX hbB hE2 (pc' := 37) rfl rfl (show vp_in (nI 0) 6 from vp_in_nI (by decide) (by decide)) q0 rfl ?_
  refine jw.steps F jx_i439 2 (pc' := 40) (l' := [(0, .ref 1000002), (1, .ref 0), (2, .ref 178), (3, .ref 226), (4, .int (0 : Int32))]) (st' := [.int (p0 &&& (31 : Int32))]) rfl ?_
  refine jw.br F jx_i439 (pc' := 453) (st' := []) rfl (by rw [hsw]; rfl) ?_
  refine jw.steps F jx_i439 1 (pc' := 454) (l' := [(0, .ref 1000002), (1, .ref 0), (2, .ref 178), (3, .ref 226), (4, .int (0 : Int32))]) (st' := [.ref 0]) rfl ?_
  refine jw.ca hTb F jx_i439 (pc' := 457) (S' := [.int (0 : Int32)]) rfl jv_i190 [.ref 0] rfl rfl rfl rfl (jx_cal2 rfl (jv_H_at rfl) rfl rfl) rfl (jx_e12 p0 p1 p2 p3 p4 p5 ) (by omega) (by omega) rfl rfl ?_
  refine jw.steps F jx_i439 1 (pc' := 458) (l' := [(0, .ref 1000002), (1, .ref 0), (2, .ref 178), (3, .ref 226), (4, .int (0 : Int32))]) (st' := [.ref 178, .int (0 : Int32)]) rfl ?_
  refine jw.ca hTb F jx_i439 (pc' := 461) (S' := [.int (0 : Int32), .int (0 : Int32)]) rfl jv_i356 [.ref 178] rfl rfl rfl rfl (jx_cal2 rfl (jv_H_at rfl) rfl rfl) rfl (jx_e13 p0 p1 p2 p3 p4 p5 ) (by omega) (by omega) rfl rfl ?_
  refine jw.br F jx_i439 (pc' := 1525) (st' := []) rfl (jv_bc_eq.trans (jx_got (by decide))) ?_
  refine jw.steps F jx_i439 4 (pc' := 26) (l' := [(4, .int (6 : Int32)), (0, .ref 1000002), (1, .ref 0), (2, .ref 178), (3, .ref 226)]) (st' := [.ref 1000002, .int (6 : Int32)]) rfl ?_
  refine jw.slen F jx_i439 hX hbB hE2 (pc' := 27) rfl rfl rfl ?_
  refine jw.steps F jx_i439 2 (pc' := 30) (l' := [(4, .int (6 : Int32)), (0, .ref 1000002), (1, .ref 0), (2, .ref 178), (3, .ref 226)]) (st' := [.int (0 : Int32), .int (6 : Int32)]) rfl ?_
  refine jw.br F jx_i439 (pc' := 1531) (st' := []) rfl (jv_bc_gt.trans (jx_got (by decide))) ?_
  refine jw.steps F jx_i439 1 (pc' := 1532) (l' := [(4, .int (6 : Int32)), (0, .ref 1000002), (1, .ref 0), (2, .ref 178), (3, .ref 226)]) (st' := [.int (1 : Int32)]) rfl ?_
  exact hQ _ _ _ _ (by omega) (by omega)

set_option maxRecDepth 100000 in
/-- the law: case 5 -/
theorem jx_case5 (p0 : Int32) (p1 : Int32) (p2 : Int32) (p3 : Int32) (p4 : Int32) (p5 : Int32) (hsw : p0 &&& (31 : Int32) = (5 : Int32)) {p : Program} {l : Launch} {e : Env} {R : Room} {s : State} {m : MethodId} {args : Array Value} {below : List Frame} {meth : Method} {c : Code} {E : jv_Env} {Q : State → Prop} (hTb : jv_TOk jv_Tb) (hT2 : jx_T2Ok) (hl : l.stackTraces = false) (F : jx_F jv_T2 439 E p R s m args meth c) (hZ : jx_Z E s) (hRc : R.cells = 600002) (hRs : R.slots = 7302232) {bb : Nat} {xs : Nat → Int32} (hX : va_X bb 6 xs s E.2.2.2.2) (hbB : bb < E.2.2.2.1) (hE2 : E.1 1000002 = bb) (hQ : ∀ (l0 : jv_L) (G : jv_G) (n sl : Nat), n ≤ 600002 → sl ≤ 7302232 → jw p l e R s m args below meth c E 8 0 0 Q 1532 l0 [.int (1 : Int32)] G n sl) (q0 : xs 0 = p0) (q1 : xs 1 = p1) (q2 : xs 2 = p2) (q3 : xs 3 = p3) (q4 : xs 4 = p4) (q5 : xs 5 = p5) : jw p l e R s m args below meth c E 8 0 0 Q 33 [(0, .ref 1000002), (1, .ref 0), (2, .ref 178), (3, .ref 226), (4, .int (0 : Int32))] [] (jv_H (jx_K 227) jx_If jx_L0 (jx_R 227)) 227 1572950 := by
  exact jx_l3 p0 p1 p2 p3 p4 p5  hsw hTb hT2 hl F hZ hRc hRs hX hbB hE2 hQ q0 q1 q2 q3 q4 q5

set_option maxRecDepth 100000 in
theorem jv_i191 : jv_I 191 1 (some .int) 0 0 jv_c191 := ⟨rfl, rfl, rfl, rfl, rfl⟩
set_option maxRecDepth 100000 in
/-- ProgramBox.programs -/
theorem jx_e14 (p0 : Int32) (p1 : Int32) (p2 : Int32) (p3 : Int32) (p4 : Int32) (p5 : Int32)  : jv_Ms 191 [.ref 0] (jv_H (jx_K 227) jx_If jx_L0 (jx_R 227)) 227 1572950 (some (.int (0 : Int32)), (jv_H (jx_K 227) jx_If jx_L0 (jx_R 227)), 227, 1572950) := by
  show jv_Ev 191 0 [(0, .ref 0)] [] (jv_H (jx_K 227) jx_If jx_L0 (jx_R 227)) 227 1572950 _
  refine jv_Ev.steps jv_i191 1 (pc' := 1) (l' := [(0, .ref 0)]) (st' := [.ref 0]) rfl ?_
  refine jv_Ev.m jv_i191 (pc' := 4) (st' := [.int (0 : Int32)]) rfl rfl (jv_m_getI rfl rfl rfl rfl) ?_
  exact jv_Ev.ret jv_i191 rfl rfl

set_option maxRecDepth 100000 in
theorem jv_i357 : jv_I 357 1 (some .int) 0 0 jv_c357 := ⟨rfl, rfl, rfl, rfl, rfl⟩
set_option maxRecDepth 100000 in
/-- ProgramBoxModel.programs -/
theorem jx_e15 (p0 : Int32) (p1 : Int32) (p2 : Int32) (p3 : Int32) (p4 : Int32) (p5 : Int32)  : jv_Ms 357 [.ref 178] (jv_H (jx_K 227) jx_If jx_L0 (jx_R 227)) 227 1572950 (some (.int (0 : Int32)), (jv_H (jx_K 227) (jv_u jx_If 178 0 (0 : Int32)) jx_L0 (jx_R 227)), 227, 1572950) := by
  show jv_Ev 357 0 [(0, .ref 178)] [] (jv_H (jx_K 227) jx_If jx_L0 (jx_R 227)) 227 1572950 _
  refine jv_Ev.steps jv_i357 2 (pc' := 2) (l' := [(0, .ref 178)]) (st' := [.int (0 : Int32), .ref 178]) rfl ?_
  refine jv_Ev.m jv_i357 (pc' := 5) (st' := []) rfl rfl (jv_m_putI rfl rfl rfl rfl rfl) ?_
  refine jv_Ev.steps jv_i357 1 (pc' := 6) (l' := [(0, .ref 178)]) (st' := [.ref 178]) rfl ?_
  refine jv_Ev.m jv_i357 (pc' := 9) (st' := [.int (0 : Int32)]) rfl rfl (jv_m_getI rfl rfl rfl rfl) ?_
  exact jv_Ev.ret jv_i357 rfl rfl

set_option maxRecDepth 100000 in
/-- the law: case 6, one way -/
theorem jx_l4 (p0 : Int32) (p1 : Int32) (p2 : Int32) (p3 : Int32) (p4 : Int32) (p5 : Int32)  (hsw : p0 &&& (31 : Int32) = (6 : Int32)) {p : Program} {l : Launch} {e : Env} {R : Room} {s : State} {m : MethodId} {args : Array Value} {below : List Frame} {meth : Method} {c : Code} {E : jv_Env} {Q : State → Prop} (hTb : jv_TOk jv_Tb) (hT2 : jx_T2Ok) (hl : l.stackTraces = false) (F : jx_F jv_T2 439 E p R s m args meth c) (hZ : jx_Z E s) (hRc : R.cells = 600002) (hRs : R.slots = 7302232) {bb : Nat} {xs : Nat → Int32} (hX : va_X bb 6 xs s E.2.2.2.2) (hbB : bb < E.2.2.2.1) (hE2 : E.1 1000002 = bb) (hQ : ∀ (l0 : jv_L) (G : jv_G) (n sl : Nat), n ≤ 600002 → sl ≤ 7302232 → jw p l e R s m args below meth c E 8 0 0 Q 1532 l0 [.int (1 : Int32)] G n sl) (q0 : xs 0 = p0) (q1 : xs 1 = p1) (q2 : xs 2 = p2) (q3 : xs 3 = p3) (q4 : xs 4 = p4) (q5 : xs 5 = p5) : jw p l e R s m args below meth c E 8 0 0 Q 33 [(0, .ref 1000002), (1, .ref 0), (2, .ref 178), (3, .ref 226), (4, .int (0 : Int32))] [] (jv_H (jx_K 227) jx_If jx_L0 (jx_R 227)) 227 1572950 := by
  refine jw.steps F jx_i439 2 (pc' := 36) (l' := [(0, .ref 1000002), (1, .ref 0), (2, .ref 178), (3, .ref 226), (4, .int (0 : Int32))]) (st' := [.int (0 : Int32), .ref 1000002]) rfl ?_
  refine jw.sld F jx_i439 hX hbB hE2 (pc' := 37) rfl rfl (show vp_in (nI 0) 6 from vp_in_nI (by decide) (by decide)) q0 rfl ?_
  refine jw.steps F jx_i439 2 (pc' := 40) (l' := [(0, .ref 1000002), (1, .ref 0), (2, .ref 178), (3, .ref 226), (4, .int (0 : Int32))]) (st' := [.int (p0 &&& (31 : Int32))]) rfl ?_
  refine jw.br F jx_i439 (pc' := 466) (st' := []) rfl (by rw [hsw]; rfl) ?_
  refine jw.steps F jx_i439 1 (pc' := 467) (l' := [(0, .ref 1000002), (1, .ref 0), (2, .ref 178), (3, .ref 226), (4, .int (0 : Int32))]) (st' := [.ref 0]) rfl ?_
  refine jw.ca hTb F jx_i439 (pc' := 470) (S' := [.int (0 : Int32)]) rfl jv_i191 [.ref 0] rfl rfl rfl rfl (jx_cal2 rfl (jv_H_at rfl) rfl rfl) rfl (jx_e14 p0 p1 p2 p3 p4 p5 ) (by omega) (by omega) rfl rfl ?_
  refine jw.steps F jx_i439 1 (pc' := 471) (l' := [(0, .ref 1000002), (1, .ref 0), (2, .ref 178), (3, .ref 226), (4, .int (0 : Int32))]) (st' := [.ref 178, .int (0 : Int32)]) rfl ?_
  refine jw.ca hTb F jx_i439 (pc' := 474) (S' := [.int (0 : Int32), .int (0 : Int32)]) rfl jv_i357 [.ref 178] rfl rfl rfl rfl (jx_cal2 rfl (jv_H_at rfl) rfl rfl) rfl (jx_e15 p0 p1 p2 p3 p4 p5 ) (by omega) (by omega) rfl rfl ?_
  refine jw.br F jx_i439 (pc' := 1525) (st' := []) rfl (jv_bc_eq.trans (jx_got (by decide))) ?_
  refine jw.steps F jx_i439 4 (pc' := 26) (l' := [(4, .int (6 : Int32)), (0, .ref 1000002), (1, .ref 0), (2, .ref 178), (3, .ref 226)]) (st' := [.ref 1000002, .int (6 : Int32)]) rfl ?_
  refine jw.slen F jx_i439 hX hbB hE2 (pc' := 27) rfl rfl rfl ?_
  refine jw.steps F jx_i439 2 (pc' := 30) (l' := [(4, .int (6 : Int32)), (0, .ref 1000002), (1, .ref 0), (2, .ref 178), (3, .ref 226)]) (st' := [.int (0 : Int32), .int (6 : Int32)]) rfl ?_
  refine jw.br F jx_i439 (pc' := 1531) (st' := []) rfl (jv_bc_gt.trans (jx_got (by decide))) ?_
  refine jw.steps F jx_i439 1 (pc' := 1532) (l' := [(4, .int (6 : Int32)), (0, .ref 1000002), (1, .ref 0), (2, .ref 178), (3, .ref 226)]) (st' := [.int (1 : Int32)]) rfl ?_
  exact hQ _ _ _ _ (by omega) (by omega)

set_option maxRecDepth 100000 in
/-- the law: case 6 -/
theorem jx_case6 (p0 : Int32) (p1 : Int32) (p2 : Int32) (p3 : Int32) (p4 : Int32) (p5 : Int32) (hsw : p0 &&& (31 : Int32) = (6 : Int32)) {p : Program} {l : Launch} {e : Env} {R : Room} {s : State} {m : MethodId} {args : Array Value} {below : List Frame} {meth : Method} {c : Code} {E : jv_Env} {Q : State → Prop} (hTb : jv_TOk jv_Tb) (hT2 : jx_T2Ok) (hl : l.stackTraces = false) (F : jx_F jv_T2 439 E p R s m args meth c) (hZ : jx_Z E s) (hRc : R.cells = 600002) (hRs : R.slots = 7302232) {bb : Nat} {xs : Nat → Int32} (hX : va_X bb 6 xs s E.2.2.2.2) (hbB : bb < E.2.2.2.1) (hE2 : E.1 1000002 = bb) (hQ : ∀ (l0 : jv_L) (G : jv_G) (n sl : Nat), n ≤ 600002 → sl ≤ 7302232 → jw p l e R s m args below meth c E 8 0 0 Q 1532 l0 [.int (1 : Int32)] G n sl) (q0 : xs 0 = p0) (q1 : xs 1 = p1) (q2 : xs 2 = p2) (q3 : xs 3 = p3) (q4 : xs 4 = p4) (q5 : xs 5 = p5) : jw p l e R s m args below meth c E 8 0 0 Q 33 [(0, .ref 1000002), (1, .ref 0), (2, .ref 178), (3, .ref 226), (4, .int (0 : Int32))] [] (jv_H (jx_K 227) jx_If jx_L0 (jx_R 227)) 227 1572950 := by
  exact jx_l4 p0 p1 p2 p3 p4 p5  hsw hTb hT2 hl F hZ hRc hRs hX hbB hE2 hQ q0 q1 q2 q3 q4 q5

set_option maxRecDepth 100000 in
theorem jv_i192 : jv_I 192 1 (some .int) 0 0 jv_c192 := ⟨rfl, rfl, rfl, rfl, rfl⟩
set_option maxRecDepth 100000 in
/-- ProgramBox.size -/
theorem jx_e16 (p0 : Int32) (p1 : Int32) (p2 : Int32) (p3 : Int32) (p4 : Int32) (p5 : Int32)  : jv_Ms 192 [.ref 0] (jv_H (jx_K 227) jx_If jx_L0 (jx_R 227)) 227 1572950 (some (.int (0 : Int32)), (jv_H (jx_K 227) jx_If jx_L0 (jx_R 227)), 227, 1572950) := by
  show jv_Ev 192 0 [(0, .ref 0)] [] (jv_H (jx_K 227) jx_If jx_L0 (jx_R 227)) 227 1572950 _
  refine jv_Ev.steps jv_i192 1 (pc' := 1) (l' := [(0, .ref 0)]) (st' := [.ref 0]) rfl ?_
  refine jv_Ev.m jv_i192 (pc' := 4) (st' := [.ref 2]) rfl rfl (jv_m_getR rfl rfl rfl rfl) ?_
  refine jv_Ev.m jv_i192 (pc' := 7) (st' := [.int (0 : Int32)]) rfl rfl (jv_m_getI rfl rfl rfl rfl) ?_
  exact jv_Ev.ret jv_i192 rfl rfl

set_option maxRecDepth 100000 in
theorem jv_i359 : jv_I 359 1 (some .int) 0 0 jv_c359 := ⟨rfl, rfl, rfl, rfl, rfl⟩
set_option maxRecDepth 100000 in
/-- ProgramBoxModel.size -/
theorem jx_e17 (p0 : Int32) (p1 : Int32) (p2 : Int32) (p3 : Int32) (p4 : Int32) (p5 : Int32)  : jv_Ms 359 [.ref 178] (jv_H (jx_K 227) jx_If jx_L0 (jx_R 227)) 227 1572950 (some (.int (0 : Int32)), (jv_H (jx_K 227) (jv_u jx_If 178 0 (0 : Int32)) jx_L0 (jx_R 227)), 227, 1572950) := by
  show jv_Ev 359 0 [(0, .ref 178)] [] (jv_H (jx_K 227) jx_If jx_L0 (jx_R 227)) 227 1572950 _
  refine jv_Ev.steps jv_i359 2 (pc' := 2) (l' := [(0, .ref 178)]) (st' := [.int (0 : Int32), .ref 178]) rfl ?_
  refine jv_Ev.m jv_i359 (pc' := 5) (st' := []) rfl rfl (jv_m_putI rfl rfl rfl rfl rfl) ?_
  refine jv_Ev.steps jv_i359 1 (pc' := 6) (l' := [(0, .ref 178)]) (st' := [.ref 178]) rfl ?_
  refine jv_Ev.m jv_i359 (pc' := 9) (st' := [.int (0 : Int32)]) rfl rfl (jv_m_getI rfl rfl rfl rfl) ?_
  exact jv_Ev.ret jv_i359 rfl rfl

set_option maxRecDepth 100000 in
/-- the law: case 8, one way -/
theorem jx_l5 (p0 : Int32) (p1 : Int32) (p2 : Int32) (p3 : Int32) (p4 : Int32) (p5 : Int32)  (hsw : p0 &&& (31 : Int32) = (8 : Int32)) {p : Program} {l : Launch} {e : Env} {R : Room} {s : State} {m : MethodId} {args : Array Value} {below : List Frame} {meth : Method} {c : Code} {E : jv_Env} {Q : State → Prop} (hTb : jv_TOk jv_Tb) (hT2 : jx_T2Ok) (hl : l.stackTraces = false) (F : jx_F jv_T2 439 E p R s m args meth c) (hZ : jx_Z E s) (hRc : R.cells = 600002) (hRs : R.slots = 7302232) {bb : Nat} {xs : Nat → Int32} (hX : va_X bb 6 xs s E.2.2.2.2) (hbB : bb < E.2.2.2.1) (hE2 : E.1 1000002 = bb) (hQ : ∀ (l0 : jv_L) (G : jv_G) (n sl : Nat), n ≤ 600002 → sl ≤ 7302232 → jw p l e R s m args below meth c E 8 0 0 Q 1532 l0 [.int (1 : Int32)] G n sl) (q0 : xs 0 = p0) (q1 : xs 1 = p1) (q2 : xs 2 = p2) (q3 : xs 3 = p3) (q4 : xs 4 = p4) (q5 : xs 5 = p5) : jw p l e R s m args below meth c E 8 0 0 Q 33 [(0, .ref 1000002), (1, .ref 0), (2, .ref 178), (3, .ref 226), (4, .int (0 : Int32))] [] (jv_H (jx_K 227) jx_If jx_L0 (jx_R 227)) 227 1572950 := by
  refine jw.steps F jx_i439 2 (pc' := 36) (l' := [(0, .ref 1000002), (1, .ref 0), (2, .ref 178), (3, .ref 226), (4, .int (0 : Int32))]) (st' := [.int (0 : Int32), .ref 1000002]) rfl ?_
  refine jw.sld F jx_i439 hX hbB hE2 (pc' := 37) rfl rfl (show vp_in (nI 0) 6 from vp_in_nI (by decide) (by decide)) q0 rfl ?_
  refine jw.steps F jx_i439 2 (pc' := 40) (l' := [(0, .ref 1000002), (1, .ref 0), (2, .ref 178), (3, .ref 226), (4, .int (0 : Int32))]) (st' := [.int (p0 &&& (31 : Int32))]) rfl ?_
  refine jw.br F jx_i439 (pc' := 523) (st' := []) rfl (by rw [hsw]; rfl) ?_
  refine jw.steps F jx_i439 1 (pc' := 524) (l' := [(0, .ref 1000002), (1, .ref 0), (2, .ref 178), (3, .ref 226), (4, .int (0 : Int32))]) (st' := [.ref 0]) rfl ?_
  refine jw.ca hTb F jx_i439 (pc' := 527) (S' := [.int (0 : Int32)]) rfl jv_i192 [.ref 0] rfl rfl rfl rfl (jx_cal2 rfl (jv_H_at rfl) rfl rfl) rfl (jx_e16 p0 p1 p2 p3 p4 p5 ) (by omega) (by omega) rfl rfl ?_
  refine jw.steps F jx_i439 1 (pc' := 528) (l' := [(0, .ref 1000002), (1, .ref 0), (2, .ref 178), (3, .ref 226), (4, .int (0 : Int32))]) (st' := [.ref 178, .int (0 : Int32)]) rfl ?_
  refine jw.ca hTb F jx_i439 (pc' := 531) (S' := [.int (0 : Int32), .int (0 : Int32)]) rfl jv_i359 [.ref 178] rfl rfl rfl rfl (jx_cal2 rfl (jv_H_at rfl) rfl rfl) rfl (jx_e17 p0 p1 p2 p3 p4 p5 ) (by omega) (by omega) rfl rfl ?_
  refine jw.br F jx_i439 (pc' := 1525) (st' := []) rfl (jv_bc_eq.trans (jx_got (by decide))) ?_
  refine jw.steps F jx_i439 4 (pc' := 26) (l' := [(4, .int (6 : Int32)), (0, .ref 1000002), (1, .ref 0), (2, .ref 178), (3, .ref 226)]) (st' := [.ref 1000002, .int (6 : Int32)]) rfl ?_
  refine jw.slen F jx_i439 hX hbB hE2 (pc' := 27) rfl rfl rfl ?_
  refine jw.steps F jx_i439 2 (pc' := 30) (l' := [(4, .int (6 : Int32)), (0, .ref 1000002), (1, .ref 0), (2, .ref 178), (3, .ref 226)]) (st' := [.int (0 : Int32), .int (6 : Int32)]) rfl ?_
  refine jw.br F jx_i439 (pc' := 1531) (st' := []) rfl (jv_bc_gt.trans (jx_got (by decide))) ?_
  refine jw.steps F jx_i439 1 (pc' := 1532) (l' := [(4, .int (6 : Int32)), (0, .ref 1000002), (1, .ref 0), (2, .ref 178), (3, .ref 226)]) (st' := [.int (1 : Int32)]) rfl ?_
  exact hQ _ _ _ _ (by omega) (by omega)

set_option maxRecDepth 100000 in
/-- the law: case 8 -/
theorem jx_case8 (p0 : Int32) (p1 : Int32) (p2 : Int32) (p3 : Int32) (p4 : Int32) (p5 : Int32) (hsw : p0 &&& (31 : Int32) = (8 : Int32)) {p : Program} {l : Launch} {e : Env} {R : Room} {s : State} {m : MethodId} {args : Array Value} {below : List Frame} {meth : Method} {c : Code} {E : jv_Env} {Q : State → Prop} (hTb : jv_TOk jv_Tb) (hT2 : jx_T2Ok) (hl : l.stackTraces = false) (F : jx_F jv_T2 439 E p R s m args meth c) (hZ : jx_Z E s) (hRc : R.cells = 600002) (hRs : R.slots = 7302232) {bb : Nat} {xs : Nat → Int32} (hX : va_X bb 6 xs s E.2.2.2.2) (hbB : bb < E.2.2.2.1) (hE2 : E.1 1000002 = bb) (hQ : ∀ (l0 : jv_L) (G : jv_G) (n sl : Nat), n ≤ 600002 → sl ≤ 7302232 → jw p l e R s m args below meth c E 8 0 0 Q 1532 l0 [.int (1 : Int32)] G n sl) (q0 : xs 0 = p0) (q1 : xs 1 = p1) (q2 : xs 2 = p2) (q3 : xs 3 = p3) (q4 : xs 4 = p4) (q5 : xs 5 = p5) : jw p l e R s m args below meth c E 8 0 0 Q 33 [(0, .ref 1000002), (1, .ref 0), (2, .ref 178), (3, .ref 226), (4, .int (0 : Int32))] [] (jv_H (jx_K 227) jx_If jx_L0 (jx_R 227)) 227 1572950 := by
  exact jx_l5 p0 p1 p2 p3 p4 p5  hsw hTb hT2 hl F hZ hRc hRs hX hbB hE2 hQ q0 q1 q2 q3 q4 q5

set_option maxRecDepth 100000 in
theorem jv_i193 : jv_I 193 3 none 0 0 jv_c193 := ⟨rfl, rfl, rfl, rfl, rfl⟩
set_option maxRecDepth 100000 in
/-- ProgramBox.clock -/
theorem jx_e18 (p0 : Int32) (p1 : Int32) (p2 : Int32) (p3 : Int32) (p4 : Int32) (p5 : Int32)  : jv_Ms 193 [.ref 0, .long ((p1.toInt64 <<< ((32 : Int32).toInt64 &&& 63)) ||| (p2.toInt64 &&& (4294967295 : Int64)))] (jv_H (jx_K 227) jx_If jx_L0 (jx_R 227)) 227 1572950 (none, (jv_H (jx_K 227) jx_If (jv_u jx_L0 2 8 ((p1.toInt64 <<< ((32 : Int32).toInt64 &&& 63)) ||| (p2.toInt64 &&& (4294967295 : Int64)))) (jx_R 227)), 227, 1572950) := by
  show jv_Ev 193 0 [(0, .ref 0), (1, .long ((p1.toInt64 <<< ((32 : Int32).toInt64 &&& 63)) ||| (p2.toInt64 &&& (4294967295 : Int64))))] [] (jv_H (jx_K 227) jx_If jx_L0 (jx_R 227)) 227 1572950 _
  refine jv_Ev.steps jv_i193 1 (pc' := 1) (l' := [(0, .ref 0), (1, .long ((p1.toInt64 <<< ((32 : Int32).toInt64 &&& 63)) ||| (p2.toInt64 &&& (4294967295 : Int64))))]) (st' := [.ref 0]) rfl ?_
  refine jv_Ev.m jv_i193 (pc' := 4) (st' := [.ref 2]) rfl rfl (jv_m_getR rfl rfl rfl rfl) ?_
  refine jv_Ev.steps jv_i193 1 (pc' := 5) (l' := [(0, .ref 0), (1, .long ((p1.toInt64 <<< ((32 : Int32).toInt64 &&& 63)) ||| (p2.toInt64 &&& (4294967295 : Int64))))]) (st' := [.long ((p1.toInt64 <<< ((32 : Int32).toInt64 &&& 63)) ||| (p2.toInt64 &&& (4294967295 : Int64))), .ref 2]) rfl ?_
  refine jv_Ev.m jv_i193 (pc' := 8) (st' := []) rfl rfl (jv_m_putL rfl rfl rfl rfl rfl) ?_
  exact jv_Ev.ret jv_i193 rfl rfl

set_option maxRecDepth 100000 in
theorem jv_i364 : jv_I 364 3 none 0 0 jv_c364 := ⟨rfl, rfl, rfl, rfl, rfl⟩
set_option maxRecDepth 100000 in
/-- ProgramBoxModel.clock -/
theorem jx_e19 (p0 : Int32) (p1 : Int32) (p2 : Int32) (p3 : Int32) (p4 : Int32) (p5 : Int32)  : jv_Ms 364 [.ref 178, .long ((p1.toInt64 <<< ((32 : Int32).toInt64 &&& 63)) ||| (p2.toInt64 &&& (4294967295 : Int64)))] (jv_H (jx_K 227) jx_If (jv_u jx_L0 2 8 ((p1.toInt64 <<< ((32 : Int32).toInt64 &&& 63)) ||| (p2.toInt64 &&& (4294967295 : Int64)))) (jx_R 227)) 227 1572950 (none, (jv_H (jx_K 227) (jv_u jx_If 178 0 (0 : Int32)) (jv_u (jv_u jx_L0 2 8 ((p1.toInt64 <<< ((32 : Int32).toInt64 &&& 63)) ||| (p2.toInt64 &&& (4294967295 : Int64)))) 178 13 ((p1.toInt64 <<< ((32 : Int32).toInt64 &&& 63)) ||| (p2.toInt64 &&& (4294967295 : Int64)))) (jx_R 227)), 227, 1572950) := by
  show jv_Ev 364 0 [(0, .ref 178), (1, .long ((p1.toInt64 <<< ((32 : Int32).toInt64 &&& 63)) ||| (p2.toInt64 &&& (4294967295 : Int64))))] [] (jv_H (jx_K 227) jx_If (jv_u jx_L0 2 8 ((p1.toInt64 <<< ((32 : Int32).toInt64 &&& 63)) ||| (p2.toInt64 &&& (4294967295 : Int64)))) (jx_R 227)) 227 1572950 _
  refine jv_Ev.steps jv_i364 2 (pc' := 2) (l' := [(0, .ref 178), (1, .long ((p1.toInt64 <<< ((32 : Int32).toInt64 &&& 63)) ||| (p2.toInt64 &&& (4294967295 : Int64))))]) (st' := [.int (0 : Int32), .ref 178]) rfl ?_
  refine jv_Ev.m jv_i364 (pc' := 5) (st' := []) rfl rfl (jv_m_putI rfl rfl rfl rfl rfl) ?_
  refine jv_Ev.steps jv_i364 2 (pc' := 7) (l' := [(0, .ref 178), (1, .long ((p1.toInt64 <<< ((32 : Int32).toInt64 &&& 63)) ||| (p2.toInt64 &&& (4294967295 : Int64))))]) (st' := [.long ((p1.toInt64 <<< ((32 : Int32).toInt64 &&& 63)) ||| (p2.toInt64 &&& (4294967295 : Int64))), .ref 178]) rfl ?_
  refine jv_Ev.m jv_i364 (pc' := 10) (st' := []) rfl rfl (jv_m_putL rfl rfl rfl rfl rfl) ?_
  exact jv_Ev.ret jv_i364 rfl rfl

set_option maxRecDepth 100000 in
/-- the law: case 12, one way -/
theorem jx_l6 (p0 : Int32) (p1 : Int32) (p2 : Int32) (p3 : Int32) (p4 : Int32) (p5 : Int32)  (hsw : p0 &&& (31 : Int32) = (12 : Int32)) {p : Program} {l : Launch} {e : Env} {R : Room} {s : State} {m : MethodId} {args : Array Value} {below : List Frame} {meth : Method} {c : Code} {E : jv_Env} {Q : State → Prop} (hTb : jv_TOk jv_Tb) (hT2 : jx_T2Ok) (hl : l.stackTraces = false) (F : jx_F jv_T2 439 E p R s m args meth c) (hZ : jx_Z E s) (hRc : R.cells = 600002) (hRs : R.slots = 7302232) {bb : Nat} {xs : Nat → Int32} (hX : va_X bb 6 xs s E.2.2.2.2) (hbB : bb < E.2.2.2.1) (hE2 : E.1 1000002 = bb) (hQ : ∀ (l0 : jv_L) (G : jv_G) (n sl : Nat), n ≤ 600002 → sl ≤ 7302232 → jw p l e R s m args below meth c E 8 0 0 Q 1532 l0 [.int (1 : Int32)] G n sl) (q0 : xs 0 = p0) (q1 : xs 1 = p1) (q2 : xs 2 = p2) (q3 : xs 3 = p3) (q4 : xs 4 = p4) (q5 : xs 5 = p5) : jw p l e R s m args below meth c E 8 0 0 Q 33 [(0, .ref 1000002), (1, .ref 0), (2, .ref 178), (3, .ref 226), (4, .int (0 : Int32))] [] (jv_H (jx_K 227) jx_If jx_L0 (jx_R 227)) 227 1572950 := by
  refine jw.steps F jx_i439 2 (pc' := 36) (l' := [(0, .ref 1000002), (1, .ref 0), (2, .ref 178), (3, .ref 226), (4, .int (0 : Int32))]) (st' := [.int (0 : Int32), .ref 1000002]) rfl ?_
  refine jw.sld F jx_i439 hX hbB hE2 (pc' := 37) rfl rfl (show vp_in (nI 0) 6 from vp_in_nI (by decide) (by decide)) q0 rfl ?_
  refine jw.steps F jx_i439 2 (pc' := 40) (l' := [(0, .ref 1000002), (1, .ref 0), (2, .ref 178), (3, .ref 226), (4, .int (0 : Int32))]) (st' := [.int (p0 &&& (31 : Int32))]) rfl ?_
  refine jw.br F jx_i439 (pc' := 727) (st' := []) rfl (by rw [hsw]; rfl) ?_
  refine jw.steps F jx_i439 5 (pc' := 733) (l' := [(0, .ref 1000002), (1, .ref 0), (2, .ref 178), (3, .ref 226), (4, .int (0 : Int32))]) (st' := [.int (1 : Int32), .ref 1000002, .ref 0]) rfl ?_
  refine jw.sld F jx_i439 hX hbB hE2 (pc' := 734) rfl rfl (show vp_in (nI 1) 6 from vp_in_nI (by decide) (by decide)) q1 rfl ?_
  refine jw.steps F jx_i439 7 (pc' := 743) (l' := [(0, .ref 1000002), (1, .ref 0), (2, .ref 178), (3, .ref 226), (4, .int (0 : Int32))]) (st' := [.int (2 : Int32), .ref 1000002, .long (p1.toInt64 <<< ((32 : Int32).toInt64 &&& 63)), .ref 0]) rfl ?_
  refine jw.sld F jx_i439 hX hbB hE2 (pc' := 744) rfl rfl (show vp_in (nI 2) 6 from vp_in_nI (by decide) (by decide)) q2 rfl ?_
  refine jw.steps F jx_i439 4 (pc' := 750) (l' := [(0, .ref 1000002), (1, .ref 0), (2, .ref 178), (3, .ref 226), (4, .int (0 : Int32))]) (st' := [.long ((p1.toInt64 <<< ((32 : Int32).toInt64 &&& 63)) ||| (p2.toInt64 &&& (4294967295 : Int64))), .ref 0]) rfl ?_
  refine jw.ca hTb F jx_i439 (pc' := 753) (S' := []) rfl jv_i193 [.ref 0, .long ((p1.toInt64 <<< ((32 : Int32).toInt64 &&& 63)) ||| (p2.toInt64 &&& (4294967295 : Int64)))] rfl rfl rfl rfl (jx_cal2 rfl (jv_H_at rfl) rfl rfl) rfl (jx_e18 p0 p1 p2 p3 p4 p5 ) (by omega) (by omega) rfl rfl ?_
  refine jw.steps F jx_i439 5 (pc' := 759) (l' := [(0, .ref 1000002), (1, .ref 0), (2, .ref 178), (3, .ref 226), (4, .int (0 : Int32))]) (st' := [.int (1 : Int32), .ref 1000002, .ref 178]) rfl ?_
  refine jw.sld F jx_i439 hX hbB hE2 (pc' := 760) rfl rfl (show vp_in (nI 1) 6 from vp_in_nI (by decide) (by decide)) q1 rfl ?_
  refine jw.steps F jx_i439 7 (pc' := 769) (l' := [(0, .ref 1000002), (1, .ref 0), (2, .ref 178), (3, .ref 226), (4, .int (0 : Int32))]) (st' := [.int (2 : Int32), .ref 1000002, .long (p1.toInt64 <<< ((32 : Int32).toInt64 &&& 63)), .ref 178]) rfl ?_
  refine jw.sld F jx_i439 hX hbB hE2 (pc' := 770) rfl rfl (show vp_in (nI 2) 6 from vp_in_nI (by decide) (by decide)) q2 rfl ?_
  refine jw.steps F jx_i439 4 (pc' := 776) (l' := [(0, .ref 1000002), (1, .ref 0), (2, .ref 178), (3, .ref 226), (4, .int (0 : Int32))]) (st' := [.long ((p1.toInt64 <<< ((32 : Int32).toInt64 &&& 63)) ||| (p2.toInt64 &&& (4294967295 : Int64))), .ref 178]) rfl ?_
  refine jw.ca hTb F jx_i439 (pc' := 779) (S' := []) rfl jv_i364 [.ref 178, .long ((p1.toInt64 <<< ((32 : Int32).toInt64 &&& 63)) ||| (p2.toInt64 &&& (4294967295 : Int64)))] rfl rfl rfl rfl (jx_cal2 rfl (jv_H_at rfl) rfl rfl) rfl (jx_e19 p0 p1 p2 p3 p4 p5 ) (by omega) (by omega) rfl rfl ?_
  refine jw.steps F jx_i439 5 (pc' := 26) (l' := [(4, .int (6 : Int32)), (0, .ref 1000002), (1, .ref 0), (2, .ref 178), (3, .ref 226)]) (st' := [.ref 1000002, .int (6 : Int32)]) rfl ?_
  refine jw.slen F jx_i439 hX hbB hE2 (pc' := 27) rfl rfl rfl ?_
  refine jw.steps F jx_i439 2 (pc' := 30) (l' := [(4, .int (6 : Int32)), (0, .ref 1000002), (1, .ref 0), (2, .ref 178), (3, .ref 226)]) (st' := [.int (0 : Int32), .int (6 : Int32)]) rfl ?_
  refine jw.br F jx_i439 (pc' := 1531) (st' := []) rfl (jv_bc_gt.trans (jx_got (by decide))) ?_
  refine jw.steps F jx_i439 1 (pc' := 1532) (l' := [(4, .int (6 : Int32)), (0, .ref 1000002), (1, .ref 0), (2, .ref 178), (3, .ref 226)]) (st' := [.int (1 : Int32)]) rfl ?_
  exact hQ _ _ _ _ (by omega) (by omega)

set_option maxRecDepth 100000 in
/-- the law: case 12 -/
theorem jx_case12 (p0 : Int32) (p1 : Int32) (p2 : Int32) (p3 : Int32) (p4 : Int32) (p5 : Int32) (hsw : p0 &&& (31 : Int32) = (12 : Int32)) {p : Program} {l : Launch} {e : Env} {R : Room} {s : State} {m : MethodId} {args : Array Value} {below : List Frame} {meth : Method} {c : Code} {E : jv_Env} {Q : State → Prop} (hTb : jv_TOk jv_Tb) (hT2 : jx_T2Ok) (hl : l.stackTraces = false) (F : jx_F jv_T2 439 E p R s m args meth c) (hZ : jx_Z E s) (hRc : R.cells = 600002) (hRs : R.slots = 7302232) {bb : Nat} {xs : Nat → Int32} (hX : va_X bb 6 xs s E.2.2.2.2) (hbB : bb < E.2.2.2.1) (hE2 : E.1 1000002 = bb) (hQ : ∀ (l0 : jv_L) (G : jv_G) (n sl : Nat), n ≤ 600002 → sl ≤ 7302232 → jw p l e R s m args below meth c E 8 0 0 Q 1532 l0 [.int (1 : Int32)] G n sl) (q0 : xs 0 = p0) (q1 : xs 1 = p1) (q2 : xs 2 = p2) (q3 : xs 3 = p3) (q4 : xs 4 = p4) (q5 : xs 5 = p5) : jw p l e R s m args below meth c E 8 0 0 Q 33 [(0, .ref 1000002), (1, .ref 0), (2, .ref 178), (3, .ref 226), (4, .int (0 : Int32))] [] (jv_H (jx_K 227) jx_If jx_L0 (jx_R 227)) 227 1572950 := by
  exact jx_l6 p0 p1 p2 p3 p4 p5  hsw hTb hT2 hl F hZ hRc hRs hX hbB hE2 hQ q0 q1 q2 q3 q4 q5
