def am_okCT (e : Nat × Nat × Nat) : Bool := match am_cn[e.1 / 1000]? with
  | some C => am_W e.2.2 (.constant C (e.1 % 1000) (Int32.ofNat e.2.1))
  | none => false
theorem am_CT_ok : am_CT.all am_okCT = true := by decide +kernel
def am_okLT (e : Nat × Nat × Nat) : Bool := match am_cn[e.1 / 1000]? with
  | some C => am_W e.2.2 (.constantLong C (e.1 % 1000) (Int64.ofNat e.2.1))
  | none => false
theorem am_LT_ok : am_LT.all am_okLT = true := by decide +kernel
def am_okKT (e : Nat × Nat × Nat) : Bool := match am_cn[e.1 / 1000]?, vwCl[e.2.1]? with
  | some C, some q => am_W e.2.2 (.classLink C (e.1 % 1000) q.1)
  | _, _ => false
theorem am_KT_ok : am_KT.all am_okKT = true := by decide +kernel
def am_okCl (e : (vw_C × List Nat) × Nat × Nat) : Bool := am_W e.2.1 (.instantiable e.1.1.1 e.1.1.2.2) && am_W e.2.2 (.initialized e.1.1.1) && decide (e.1.2.length = e.1.1.2.2) && (List.range e.1.1.2.2).all (fun k => am_W (e.1.2.getD k 0) (u_lay e.1.1.1 e.1.1.2.1 k))
theorem am_Cl_ok : ((vwCl.zip am_YP).zip am_KP).all am_okCl = true := by decide +kernel
def am_okM (e : am_Rec × Nat × Nat × Nat × Nat) : Bool := match e with
  | (r, jc, ji, js, jn) => am_W jn (.initialized r.1.cls) && decide (r.2.2.1 ≤ 45) &&
    decide (r.1.cls ≠ "java/lang/invoke/MethodHandle" ∧ r.1.cls ≠ "java/lang/invoke/VarHandle" ∧ (parseMethodDescriptor r.1.desc).map (fun d => d.parameters.length) = some r.2.2.2.2.1.2.1 ∧ am_cn[r.2.2.2.2.1.1]? = some r.1.cls) &&
    (if r.2.2.2.2.1.2.2 then am_W ji (.static r.1) && decide (r.1.name ≠ "<init>") else am_W ji (.instanceMethod r.1) && (if r.1.name = "<init>" then decide (r.2.2.2.1 = none) else am_W js (.selects r.1.cls r.1 r.1)))

theorem am_MP_ok0 : am_MP_0.all am_okM = true := by decide +kernel
theorem am_MP_ok1 : am_MP_1.all am_okM = true := by decide +kernel
theorem am_MP_ok2 : am_MP_2.all am_okM = true := by decide +kernel
theorem am_MP_ok3 : am_MP_3.all am_okM = true := by decide +kernel
theorem am_MP_ok4 : am_MP_4.all am_okM = true := by decide +kernel
theorem am_MP_ok5 : am_MP_5.all am_okM = true := by decide +kernel
theorem am_MP_ok6 : am_MP_6.all am_okM = true := by decide +kernel
theorem am_MP_ok7 : am_MP_7.all am_okM = true := by decide +kernel
theorem am_MP_ok8 : am_MP_8.all am_okM = true := by decide +kernel
theorem am_MP_ok9 : am_MP_9.all am_okM = true := by decide +kernel
theorem am_MP_ok10 : am_MP_10.all am_okM = true := by decide +kernel
theorem am_MP_ok11 : am_MP_11.all am_okM = true := by decide +kernel
theorem am_MP_ok12 : am_MP_12.all am_okM = true := by decide +kernel
theorem am_MP_ok13 : am_MP_13.all am_okM = true := by decide +kernel
theorem am_MP_ok14 : am_MP_14.all am_okM = true := by decide +kernel
theorem am_MP_ok15 : am_MP_15.all am_okM = true := by decide +kernel
theorem am_MP_ok16 : am_MP_16.all am_okM = true := by decide +kernel
theorem am_MP_ok17 : am_MP_17.all am_okM = true := by decide +kernel
theorem am_MP_ok18 : am_MP_18.all am_okM = true := by decide +kernel
theorem am_MP_ok19 : am_MP_19.all am_okM = true := by decide +kernel
theorem am_MP_ok20 : am_MP_20.all am_okM = true := by decide +kernel
theorem am_MP_ok21 : am_MP_21.all am_okM = true := by decide +kernel
theorem am_MP_ok22 : am_MP_22.all am_okM = true := by decide +kernel
theorem am_MP_ok23 : am_MP_23.all am_okM = true := by decide +kernel
theorem am_MP_ok : am_MP.all am_okM = true := List.all_eq_true.mpr (fun r h => ((List.mem_append.mp h).elim (fun h => List.all_eq_true.mp am_MP_ok0 r h) (fun h => ((List.mem_append.mp h).elim (fun h => List.all_eq_true.mp am_MP_ok1 r h) (fun h => ((List.mem_append.mp h).elim (fun h => List.all_eq_true.mp am_MP_ok2 r h) (fun h => ((List.mem_append.mp h).elim (fun h => List.all_eq_true.mp am_MP_ok3 r h) (fun h => ((List.mem_append.mp h).elim (fun h => List.all_eq_true.mp am_MP_ok4 r h) (fun h => ((List.mem_append.mp h).elim (fun h => List.all_eq_true.mp am_MP_ok5 r h) (fun h => ((List.mem_append.mp h).elim (fun h => List.all_eq_true.mp am_MP_ok6 r h) (fun h => ((List.mem_append.mp h).elim (fun h => List.all_eq_true.mp am_MP_ok7 r h) (fun h => ((List.mem_append.mp h).elim (fun h => List.all_eq_true.mp am_MP_ok8 r h) (fun h => ((List.mem_append.mp h).elim (fun h => List.all_eq_true.mp am_MP_ok9 r h) (fun h => ((List.mem_append.mp h).elim (fun h => List.all_eq_true.mp am_MP_ok10 r h) (fun h => ((List.mem_append.mp h).elim (fun h => List.all_eq_true.mp am_MP_ok11 r h) (fun h => ((List.mem_append.mp h).elim (fun h => List.all_eq_true.mp am_MP_ok12 r h) (fun h => ((List.mem_append.mp h).elim (fun h => List.all_eq_true.mp am_MP_ok13 r h) (fun h => ((List.mem_append.mp h).elim (fun h => List.all_eq_true.mp am_MP_ok14 r h) (fun h => ((List.mem_append.mp h).elim (fun h => List.all_eq_true.mp am_MP_ok15 r h) (fun h => ((List.mem_append.mp h).elim (fun h => List.all_eq_true.mp am_MP_ok16 r h) (fun h => ((List.mem_append.mp h).elim (fun h => List.all_eq_true.mp am_MP_ok17 r h) (fun h => ((List.mem_append.mp h).elim (fun h => List.all_eq_true.mp am_MP_ok18 r h) (fun h => ((List.mem_append.mp h).elim (fun h => List.all_eq_true.mp am_MP_ok19 r h) (fun h => ((List.mem_append.mp h).elim (fun h => List.all_eq_true.mp am_MP_ok20 r h) (fun h => ((List.mem_append.mp h).elim (fun h => List.all_eq_true.mp am_MP_ok21 r h) (fun h => ((List.mem_append.mp h).elim (fun h => List.all_eq_true.mp am_MP_ok22 r h) (fun h => (List.all_eq_true.mp am_MP_ok23 r h))))))))))))))))))))))))))))))))))))))))))))))))
set_option maxRecDepth 100000 in
theorem am_c0 : lw_tbl[269]? = some (.code am_m0.1 am_m0.2.1 am_m0.2.2.1 am_m0.2.2.2.1) := rfl
set_option maxRecDepth 100000 in
theorem am_c1 : lw_tbl[290]? = some (.code am_m1.1 am_m1.2.1 am_m1.2.2.1 am_m1.2.2.2.1) := rfl
set_option maxRecDepth 100000 in
theorem am_c2 : lw_tbl[1011]? = some (.code am_m2.1 am_m2.2.1 am_m2.2.2.1 am_m2.2.2.2.1) := rfl
set_option maxRecDepth 100000 in
theorem am_c3 : lw_tbl[1014]? = some (.code am_m3.1 am_m3.2.1 am_m3.2.2.1 am_m3.2.2.2.1) := rfl
set_option maxRecDepth 100000 in
theorem am_c4 : lw_tbl[493]? = some (.code am_m4.1 am_m4.2.1 am_m4.2.2.1 am_m4.2.2.2.1) := rfl
set_option maxRecDepth 100000 in
theorem am_c5 : lw_tbl[1127]? = some (.code am_m5.1 am_m5.2.1 am_m5.2.2.1 am_m5.2.2.2.1) := rfl
set_option maxRecDepth 100000 in
theorem am_c6 : lw_tbl[1123]? = some (.code am_m6.1 am_m6.2.1 am_m6.2.2.1 am_m6.2.2.2.1) := rfl
set_option maxRecDepth 100000 in
theorem am_c7 : lw_tbl[1138]? = some (.code am_m7.1 am_m7.2.1 am_m7.2.2.1 am_m7.2.2.2.1) := rfl
set_option maxRecDepth 100000 in
theorem am_c8 : lw_tbl[1142]? = some (.code am_m8.1 am_m8.2.1 am_m8.2.2.1 am_m8.2.2.2.1) := rfl
set_option maxRecDepth 100000 in
theorem am_c9 : lw_tbl[1147]? = some (.code am_m9.1 am_m9.2.1 am_m9.2.2.1 am_m9.2.2.2.1) := rfl
set_option maxRecDepth 100000 in
theorem am_c10 : lw_tbl[549]? = some (.code am_m10.1 am_m10.2.1 am_m10.2.2.1 am_m10.2.2.2.1) := rfl
set_option maxRecDepth 100000 in
theorem am_c11 : lw_tbl[1248]? = some (.code am_m11.1 am_m11.2.1 am_m11.2.2.1 am_m11.2.2.2.1) := rfl
set_option maxRecDepth 100000 in
theorem am_c12 : lw_tbl[1255]? = some (.code am_m12.1 am_m12.2.1 am_m12.2.2.1 am_m12.2.2.2.1) := rfl
set_option maxRecDepth 100000 in
theorem am_c13 : lw_tbl[1261]? = some (.code am_m13.1 am_m13.2.1 am_m13.2.2.1 am_m13.2.2.2.1) := rfl
set_option maxRecDepth 100000 in
theorem am_c14 : lw_tbl[1265]? = some (.code am_m14.1 am_m14.2.1 am_m14.2.2.1 am_m14.2.2.2.1) := rfl
set_option maxRecDepth 100000 in
theorem am_c15 : lw_tbl[1269]? = some (.code am_m15.1 am_m15.2.1 am_m15.2.2.1 am_m15.2.2.2.1) := rfl
set_option maxRecDepth 100000 in
theorem am_c16 : lw_tbl[238]? = some (.code am_m16.1 am_m16.2.1 am_m16.2.2.1 am_m16.2.2.2.1) := rfl
set_option maxRecDepth 100000 in
theorem am_c17 : lw_tbl[286]? = some (.code am_m17.1 am_m17.2.1 am_m17.2.2.1 am_m17.2.2.2.1) := rfl
set_option maxRecDepth 100000 in
theorem am_c18 : lw_tbl[803]? = some (.code am_m18.1 am_m18.2.1 am_m18.2.2.1 am_m18.2.2.2.1) := rfl
set_option maxRecDepth 100000 in
theorem am_c19 : lw_tbl[819]? = some (.code am_m19.1 am_m19.2.1 am_m19.2.2.1 am_m19.2.2.2.1) := rfl
set_option maxRecDepth 100000 in
theorem am_c20 : lw_tbl[843]? = some (.code am_m20.1 am_m20.2.1 am_m20.2.2.1 am_m20.2.2.2.1) := rfl
set_option maxRecDepth 100000 in
theorem am_c21 : lw_tbl[851]? = some (.code am_m21.1 am_m21.2.1 am_m21.2.2.1 am_m21.2.2.2.1) := rfl
set_option maxRecDepth 100000 in
theorem am_c22 : lw_tbl[831]? = some (.code am_m22.1 am_m22.2.1 am_m22.2.2.1 am_m22.2.2.2.1) := rfl
set_option maxRecDepth 100000 in
theorem am_c23 : lw_tbl[778]? = some (.code am_m23.1 am_m23.2.1 am_m23.2.2.1 am_m23.2.2.2.1) := rfl
set_option maxRecDepth 100000 in
theorem am_c24 : lw_tbl[1056]? = some (.code am_m24.1 am_m24.2.1 am_m24.2.2.1 am_m24.2.2.2.1) := rfl
set_option maxRecDepth 100000 in
theorem am_c25 : lw_tbl[1194]? = some (.code am_m25.1 am_m25.2.1 am_m25.2.2.1 am_m25.2.2.2.1) := rfl
set_option maxRecDepth 100000 in
theorem am_c26 : lw_tbl[924]? = some (.code am_m26.1 am_m26.2.1 am_m26.2.2.1 am_m26.2.2.2.1) := rfl
set_option maxRecDepth 100000 in
theorem am_c27 : lw_tbl[956]? = some (.code am_m27.1 am_m27.2.1 am_m27.2.2.1 am_m27.2.2.2.1) := rfl
set_option maxRecDepth 100000 in
theorem am_c28 : lw_tbl[1101]? = some (.code am_m28.1 am_m28.2.1 am_m28.2.2.1 am_m28.2.2.2.1) := rfl
set_option maxRecDepth 100000 in
theorem am_c29 : lw_tbl[964]? = some (.code am_m29.1 am_m29.2.1 am_m29.2.2.1 am_m29.2.2.2.1) := rfl
set_option maxRecDepth 100000 in
theorem am_c30 : lw_tbl[960]? = some (.code am_m30.1 am_m30.2.1 am_m30.2.2.1 am_m30.2.2.2.1) := rfl
set_option maxRecDepth 100000 in
theorem am_c31 : lw_tbl[952]? = some (.code am_m31.1 am_m31.2.1 am_m31.2.2.1 am_m31.2.2.2.1) := rfl
set_option maxRecDepth 100000 in
theorem am_c32 : lw_tbl[1218]? = some (.code am_m32.1 am_m32.2.1 am_m32.2.2.1 am_m32.2.2.2.1) := rfl
set_option maxRecDepth 100000 in
theorem am_c33 : lw_tbl[1186]? = some (.code am_m33.1 am_m33.2.1 am_m33.2.2.1 am_m33.2.2.2.1) := rfl
set_option maxRecDepth 100000 in
theorem am_c34 : lw_tbl[428]? = some (.code am_m34.1 am_m34.2.1 am_m34.2.2.1 am_m34.2.2.2.1) := rfl
set_option maxRecDepth 100000 in
theorem am_c35 : lw_tbl[883]? = some (.code am_m35.1 am_m35.2.1 am_m35.2.2.1 am_m35.2.2.2.1) := rfl
set_option maxRecDepth 100000 in
theorem am_c36 : lw_tbl[972]? = some (.code am_m36.1 am_m36.2.1 am_m36.2.2.1 am_m36.2.2.2.1) := rfl
set_option maxRecDepth 100000 in
theorem am_c37 : lw_tbl[936]? = some (.code am_m37.1 am_m37.2.1 am_m37.2.2.1 am_m37.2.2.2.1) := rfl
set_option maxRecDepth 100000 in
theorem am_c38 : lw_tbl[940]? = some (.code am_m38.1 am_m38.2.1 am_m38.2.2.1 am_m38.2.2.2.1) := rfl
set_option maxRecDepth 100000 in
theorem am_c39 : lw_tbl[981]? = some (.code am_m39.1 am_m39.2.1 am_m39.2.2.1 am_m39.2.2.2.1) := rfl
set_option maxRecDepth 100000 in
theorem am_c40 : lw_tbl[986]? = some (.code am_m40.1 am_m40.2.1 am_m40.2.2.1 am_m40.2.2.2.1) := rfl
set_option maxRecDepth 100000 in
theorem am_c41 : lw_tbl[977]? = some (.code am_m41.1 am_m41.2.1 am_m41.2.2.1 am_m41.2.2.2.1) := rfl
set_option maxRecDepth 100000 in
theorem am_c42 : lw_tbl[1001]? = some (.code am_m42.1 am_m42.2.1 am_m42.2.2.1 am_m42.2.2.2.1) := rfl
set_option maxRecDepth 100000 in
theorem am_c43 : lw_tbl[1022]? = some (.code am_m43.1 am_m43.2.1 am_m43.2.2.1 am_m43.2.2.2.1) := rfl
set_option maxRecDepth 100000 in
theorem am_c44 : lw_tbl[1032]? = some (.code am_m44.1 am_m44.2.1 am_m44.2.2.1 am_m44.2.2.2.1) := rfl
set_option maxRecDepth 100000 in
theorem am_c45 : lw_tbl[1040]? = some (.code am_m45.1 am_m45.2.1 am_m45.2.2.1 am_m45.2.2.2.1) := rfl
set_option maxRecDepth 100000 in
theorem am_c46 : lw_tbl[1064]? = some (.code am_m46.1 am_m46.2.1 am_m46.2.2.1 am_m46.2.2.2.1) := rfl
set_option maxRecDepth 100000 in
theorem am_c47 : lw_tbl[932]? = some (.code am_m47.1 am_m47.2.1 am_m47.2.2.1 am_m47.2.2.2.1) := rfl
set_option maxRecDepth 100000 in
theorem am_c48 : lw_tbl[948]? = some (.code am_m48.1 am_m48.2.1 am_m48.2.2.1 am_m48.2.2.2.1) := rfl
set_option maxRecDepth 100000 in
theorem am_c49 : lw_tbl[1114]? = some (.code am_m49.1 am_m49.2.1 am_m49.2.2.1 am_m49.2.2.2.1) := rfl
set_option maxRecDepth 100000 in
theorem am_c50 : lw_tbl[1069]? = some (.code am_m50.1 am_m50.2.1 am_m50.2.2.1 am_m50.2.2.2.1) := rfl
set_option maxRecDepth 100000 in
theorem am_c51 : lw_tbl[1308]? = some (.code am_m51.1 am_m51.2.1 am_m51.2.2.1 am_m51.2.2.2.1) := rfl
set_option maxRecDepth 100000 in
theorem am_c52 : lw_tbl[1060]? = some (.code am_m52.1 am_m52.2.1 am_m52.2.2.1 am_m52.2.2.2.1) := rfl
set_option maxRecDepth 100000 in
theorem am_c53 : lw_tbl[1052]? = some (.code am_m53.1 am_m53.2.1 am_m53.2.2.1 am_m53.2.2.2.1) := rfl
set_option maxRecDepth 100000 in
theorem am_c54 : lw_tbl[397]? = some (.code am_m54.1 am_m54.2.1 am_m54.2.2.1 am_m54.2.2.2.1) := rfl
set_option maxRecDepth 100000 in
theorem am_c55 : lw_tbl[904]? = some (.code am_m55.1 am_m55.2.1 am_m55.2.2.1 am_m55.2.2.2.1) := rfl
set_option maxRecDepth 100000 in
theorem am_c56 : lw_tbl[908]? = some (.code am_m56.1 am_m56.2.1 am_m56.2.2.1 am_m56.2.2.2.1) := rfl
set_option maxRecDepth 100000 in
theorem am_c57 : lw_tbl[912]? = some (.code am_m57.1 am_m57.2.1 am_m57.2.2.1 am_m57.2.2.2.1) := rfl
set_option maxRecDepth 100000 in
theorem am_c58 : lw_tbl[1078]? = some (.code am_m58.1 am_m58.2.1 am_m58.2.2.1 am_m58.2.2.2.1) := rfl
set_option maxRecDepth 100000 in
theorem am_c59 : lw_tbl[244]? = some (.code am_m59.1 am_m59.2.1 am_m59.2.2.1 am_m59.2.2.2.1) := rfl
set_option maxRecDepth 100000 in
theorem am_c60 : lw_tbl[835]? = some (.code am_m60.1 am_m60.2.1 am_m60.2.2.1 am_m60.2.2.2.1) := rfl
set_option maxRecDepth 100000 in
theorem am_c61 : lw_tbl[758]? = some (.code am_m61.1 am_m61.2.1 am_m61.2.2.1 am_m61.2.2.2.1) := rfl
set_option maxRecDepth 100000 in
theorem am_c62 : lw_tbl[782]? = some (.code am_m62.1 am_m62.2.1 am_m62.2.2.1 am_m62.2.2.2.1) := rfl
set_option maxRecDepth 100000 in
theorem am_c63 : lw_tbl[807]? = some (.code am_m63.1 am_m63.2.1 am_m63.2.2.1 am_m63.2.2.2.1) := rfl
set_option maxRecDepth 100000 in
theorem am_c64 : lw_tbl[201]? = some (.code am_m64.1 am_m64.2.1 am_m64.2.2.1 am_m64.2.2.2.1) := rfl
set_option maxRecDepth 100000 in
theorem am_c65 : lw_tbl[646]? = some (.code am_m65.1 am_m65.2.1 am_m65.2.2.1 am_m65.2.2.2.1) := rfl
set_option maxRecDepth 100000 in
theorem am_c66 : lw_tbl[896]? = some (.code am_m66.1 am_m66.2.1 am_m66.2.2.1 am_m66.2.2.2.1) := rfl
set_option maxRecDepth 100000 in
theorem am_c67 : lw_tbl[651]? = some (.code am_m67.1 am_m67.2.1 am_m67.2.2.1 am_m67.2.2.2.1) := rfl
set_option maxRecDepth 100000 in
theorem am_c68 : lw_tbl[742]? = some (.code am_m68.1 am_m68.2.1 am_m68.2.2.1 am_m68.2.2.2.1) := rfl
set_option maxRecDepth 100000 in
theorem am_c69 : lw_tbl[770]? = some (.code am_m69.1 am_m69.2.1 am_m69.2.2.1 am_m69.2.2.2.1) := rfl
set_option maxRecDepth 100000 in
theorem am_c70 : lw_tbl[774]? = some (.code am_m70.1 am_m70.2.1 am_m70.2.2.1 am_m70.2.2.2.1) := rfl
set_option maxRecDepth 100000 in
theorem am_c71 : lw_tbl[762]? = some (.code am_m71.1 am_m71.2.1 am_m71.2.2.1 am_m71.2.2.2.1) := rfl
set_option maxRecDepth 100000 in
theorem am_c72 : lw_tbl[766]? = some (.code am_m72.1 am_m72.2.1 am_m72.2.2.1 am_m72.2.2.2.1) := rfl
set_option maxRecDepth 100000 in
theorem am_c73 : lw_tbl[799]? = some (.code am_m73.1 am_m73.2.1 am_m73.2.2.1 am_m73.2.2.2.1) := rfl
set_option maxRecDepth 100000 in
theorem am_c74 : lw_tbl[815]? = some (.code am_m74.1 am_m74.2.1 am_m74.2.2.1 am_m74.2.2.2.1) := rfl
set_option maxRecDepth 100000 in
theorem am_c75 : lw_tbl[754]? = some (.code am_m75.1 am_m75.2.1 am_m75.2.2.1 am_m75.2.2.2.1) := rfl
set_option maxRecDepth 100000 in
theorem am_c76 : lw_tbl[790]? = some (.code am_m76.1 am_m76.2.1 am_m76.2.2.1 am_m76.2.2.2.1) := rfl
set_option maxRecDepth 100000 in
theorem am_c77 : lw_tbl[827]? = some (.code am_m77.1 am_m77.2.1 am_m77.2.2.1 am_m77.2.2.2.1) := rfl
set_option maxRecDepth 100000 in
theorem am_c78 : lw_tbl[786]? = some (.code am_m78.1 am_m78.2.1 am_m78.2.2.1 am_m78.2.2.2.1) := rfl
set_option maxRecDepth 100000 in
theorem am_c79 : lw_tbl[795]? = some (.code am_m79.1 am_m79.2.1 am_m79.2.2.1 am_m79.2.2.2.1) := rfl
set_option maxRecDepth 100000 in
theorem am_c80 : lw_tbl[746]? = some (.code am_m80.1 am_m80.2.1 am_m80.2.2.1 am_m80.2.2.2.1) := rfl
set_option maxRecDepth 100000 in
theorem am_c81 : lw_tbl[855]? = some (.code am_m81.1 am_m81.2.1 am_m81.2.2.1 am_m81.2.2.2.1) := rfl
set_option maxRecDepth 100000 in
theorem am_c82 : lw_tbl[750]? = some (.code am_m82.1 am_m82.2.1 am_m82.2.2.1 am_m82.2.2.2.1) := rfl
set_option maxRecDepth 100000 in
theorem am_c83 : lw_tbl[811]? = some (.code am_m83.1 am_m83.2.1 am_m83.2.2.1 am_m83.2.2.2.1) := rfl
set_option maxRecDepth 100000 in
theorem am_c84 : lw_tbl[823]? = some (.code am_m84.1 am_m84.2.1 am_m84.2.2.1 am_m84.2.2.2.1) := rfl
set_option maxRecDepth 100000 in
theorem am_c85 : lw_tbl[839]? = some (.code am_m85.1 am_m85.2.1 am_m85.2.2.1 am_m85.2.2.2.1) := rfl
set_option maxRecDepth 100000 in
theorem am_c86 : lw_tbl[847]? = some (.code am_m86.1 am_m86.2.1 am_m86.2.2.1 am_m86.2.2.2.1) := rfl
set_option maxRecDepth 100000 in
theorem am_c87 : lw_tbl[859]? = some (.code am_m87.1 am_m87.2.1 am_m87.2.2.1 am_m87.2.2.2.1) := rfl
set_option maxRecDepth 100000 in
theorem am_c88 : lw_tbl[875]? = some (.code am_m88.1 am_m88.2.1 am_m88.2.2.1 am_m88.2.2.2.1) := rfl
set_option maxRecDepth 100000 in
theorem am_c89 : lw_tbl[863]? = some (.code am_m89.1 am_m89.2.1 am_m89.2.2.1 am_m89.2.2.2.1) := rfl
set_option maxRecDepth 100000 in
theorem am_c90 : lw_tbl[871]? = some (.code am_m90.1 am_m90.2.1 am_m90.2.2.1 am_m90.2.2.2.1) := rfl
set_option maxRecDepth 100000 in
theorem am_c91 : lw_tbl[867]? = some (.code am_m91.1 am_m91.2.1 am_m91.2.2.1 am_m91.2.2.2.1) := rfl
set_option maxRecDepth 100000 in
theorem am_c92 : lw_tbl[900]? = some (.code am_m92.1 am_m92.2.1 am_m92.2.2.1 am_m92.2.2.2.1) := rfl
set_option maxRecDepth 100000 in
theorem am_c93 : lw_tbl[513]? = some (.code am_m93.1 am_m93.2.1 am_m93.2.2.1 am_m93.2.2.2.1) := rfl
set_option maxRecDepth 100000 in
theorem am_c94 : lw_tbl[1210]? = some (.code am_m94.1 am_m94.2.1 am_m94.2.2.1 am_m94.2.2.2.1) := rfl
set_option maxRecDepth 100000 in
theorem am_c95 : lw_tbl[1214]? = some (.code am_m95.1 am_m95.2.1 am_m95.2.2.1 am_m95.2.2.2.1) := rfl
set_option maxRecDepth 100000 in
theorem am_c96 : lw_tbl[1235]? = some (.code am_m96.1 am_m96.2.1 am_m96.2.2.1 am_m96.2.2.2.1) := rfl
set_option maxRecDepth 100000 in
theorem am_c97 : lw_tbl[1231]? = some (.code am_m97.1 am_m97.2.1 am_m97.2.2.1 am_m97.2.2.2.1) := rfl
set_option maxRecDepth 100000 in
theorem am_c98 : lw_tbl[1227]? = some (.code am_m98.1 am_m98.2.1 am_m98.2.2.1 am_m98.2.2.2.1) := rfl
set_option maxRecDepth 100000 in
theorem am_c99 : lw_tbl[1223]? = some (.code am_m99.1 am_m99.2.1 am_m99.2.2.1 am_m99.2.2.2.1) := rfl
set_option maxRecDepth 100000 in
theorem am_c100 : lw_tbl[1240]? = some (.code am_m100.1 am_m100.2.1 am_m100.2.2.1 am_m100.2.2.2.1) := rfl
set_option maxRecDepth 100000 in
theorem am_c101 : lw_tbl[422]? = some (.code am_m101.1 am_m101.2.1 am_m101.2.2.1 am_m101.2.2.2.1) := rfl
set_option maxRecDepth 100000 in
theorem am_c102 : lw_tbl[879]? = some (.code am_m102.1 am_m102.2.1 am_m102.2.2.1 am_m102.2.2.2.1) := rfl
set_option maxRecDepth 100000 in
theorem am_c103 : lw_tbl[1298]? = some (.code am_m103.1 am_m103.2.1 am_m103.2.2.1 am_m103.2.2.2.1) := rfl
set_option maxRecDepth 100000 in
theorem am_c104 : lw_tbl[168]? = some (.code am_m104.1 am_m104.2.1 am_m104.2.2.1 am_m104.2.2.2.1) := rfl
set_option maxRecDepth 100000 in
theorem am_c105 : lw_tbl[637]? = some (.code am_m105.1 am_m105.2.1 am_m105.2.2.1 am_m105.2.2.2.1) := rfl
set_option maxRecDepth 100000 in
theorem am_c106 : lw_tbl[655]? = some (.code am_m106.1 am_m106.2.1 am_m106.2.2.1 am_m106.2.2.2.1) := rfl
set_option maxRecDepth 100000 in
theorem am_c107 : lw_tbl[724]? = some (.code am_m107.1 am_m107.2.1 am_m107.2.2.1 am_m107.2.2.2.1) := rfl
set_option maxRecDepth 100000 in
theorem am_c108 : lw_tbl[659]? = some (.code am_m108.1 am_m108.2.1 am_m108.2.2.1 am_m108.2.2.2.1) := rfl
set_option maxRecDepth 100000 in
theorem am_c109 : lw_tbl[662]? = some (.code am_m109.1 am_m109.2.1 am_m109.2.2.1 am_m109.2.2.2.1) := rfl
set_option maxRecDepth 100000 in
theorem am_c110 : lw_tbl[727]? = some (.code am_m110.1 am_m110.2.1 am_m110.2.2.1 am_m110.2.2.2.1) := rfl
set_option maxRecDepth 100000 in
theorem am_c111 : lw_tbl[735]? = some (.code am_m111.1 am_m111.2.1 am_m111.2.2.1 am_m111.2.2.2.1) := rfl
set_option maxRecDepth 100000 in
theorem am_c112 : lw_tbl[666]? = some (.code am_m112.1 am_m112.2.1 am_m112.2.2.1 am_m112.2.2.2.1) := rfl
set_option maxRecDepth 100000 in
theorem am_c113 : lw_tbl[731]? = some (.code am_m113.1 am_m113.2.1 am_m113.2.2.1 am_m113.2.2.2.1) := rfl
set_option maxRecDepth 100000 in
theorem am_c114 : lw_tbl[671]? = some (.code am_m114.1 am_m114.2.1 am_m114.2.2.1 am_m114.2.2.2.1) := rfl
set_option maxRecDepth 100000 in
theorem am_c115 : lw_tbl[160]? = some (.code am_m115.1 am_m115.2.1 am_m115.2.2.1 am_m115.2.2.2.1) := rfl
set_option maxRecDepth 100000 in
theorem am_c116 : lw_tbl[633]? = some (.code am_m116.1 am_m116.2.1 am_m116.2.2.1 am_m116.2.2.2.1) := rfl
set_option maxRecDepth 100000 in
theorem am_c117 : lw_tbl[642]? = some (.code am_m117.1 am_m117.2.1 am_m117.2.2.1 am_m117.2.2.2.1) := rfl
set_option maxRecDepth 100000 in
theorem am_c118 : lw_tbl[892]? = some (.code am_m118.1 am_m118.2.1 am_m118.2.2.1 am_m118.2.2.2.1) := rfl
set_option maxRecDepth 100000 in
theorem am_c119 : lw_tbl[919]? = some (.code am_m119.1 am_m119.2.1 am_m119.2.2.1 am_m119.2.2.2.1) := rfl
set_option maxRecDepth 100000 in
theorem am_c120 : lw_tbl[928]? = some (.code am_m120.1 am_m120.2.1 am_m120.2.2.1 am_m120.2.2.2.1) := rfl
set_option maxRecDepth 100000 in
theorem am_c121 : lw_tbl[1316]? = some (.code am_m121.1 am_m121.2.1 am_m121.2.2.1 am_m121.2.2.2.1) := rfl
set_option maxRecDepth 100000 in
theorem am_c122 : lw_tbl[944]? = some (.code am_m122.1 am_m122.2.1 am_m122.2.2.1 am_m122.2.2.2.1) := rfl
set_option maxRecDepth 100000 in
theorem am_c123 : lw_tbl[968]? = some (.code am_m123.1 am_m123.2.1 am_m123.2.2.1 am_m123.2.2.2.1) := rfl
set_option maxRecDepth 100000 in
theorem am_c124 : lw_tbl[997]? = some (.code am_m124.1 am_m124.2.1 am_m124.2.2.1 am_m124.2.2.2.1) := rfl
set_option maxRecDepth 100000 in
theorem am_c125 : lw_tbl[1018]? = some (.code am_m125.1 am_m125.2.1 am_m125.2.2.1 am_m125.2.2.2.1) := rfl
set_option maxRecDepth 100000 in
theorem am_c126 : lw_tbl[1028]? = some (.code am_m126.1 am_m126.2.1 am_m126.2.2.1 am_m126.2.2.2.1) := rfl
set_option maxRecDepth 100000 in
theorem am_c127 : lw_tbl[1036]? = some (.code am_m127.1 am_m127.2.1 am_m127.2.2.1 am_m127.2.2.2.1) := rfl
set_option maxRecDepth 100000 in
theorem am_c128 : lw_tbl[1044]? = some (.code am_m128.1 am_m128.2.1 am_m128.2.2.1 am_m128.2.2.2.1) := rfl
set_option maxRecDepth 100000 in
theorem am_c129 : lw_tbl[1048]? = some (.code am_m129.1 am_m129.2.1 am_m129.2.2.1 am_m129.2.2.2.1) := rfl
set_option maxRecDepth 100000 in
theorem am_c130 : lw_tbl[1073]? = some (.code am_m130.1 am_m130.2.1 am_m130.2.2.1 am_m130.2.2.2.1) := rfl
set_option maxRecDepth 100000 in
theorem am_c131 : lw_tbl[1087]? = some (.code am_m131.1 am_m131.2.1 am_m131.2.2.1 am_m131.2.2.2.1) := rfl
set_option maxRecDepth 100000 in
theorem am_c132 : lw_tbl[1110]? = some (.code am_m132.1 am_m132.2.1 am_m132.2.2.1 am_m132.2.2.2.1) := rfl
set_option maxRecDepth 100000 in
theorem am_c133 : lw_tbl[1119]? = some (.code am_m133.1 am_m133.2.1 am_m133.2.2.1 am_m133.2.2.2.1) := rfl
set_option maxRecDepth 100000 in
theorem am_c134 : lw_tbl[1134]? = some (.code am_m134.1 am_m134.2.1 am_m134.2.2.1 am_m134.2.2.2.1) := rfl
set_option maxRecDepth 100000 in
theorem am_c135 : lw_tbl[1152]? = some (.code am_m135.1 am_m135.2.1 am_m135.2.2.1 am_m135.2.2.2.1) := rfl
set_option maxRecDepth 100000 in
theorem am_c136 : lw_tbl[1156]? = some (.code am_m136.1 am_m136.2.1 am_m136.2.2.1 am_m136.2.2.2.1) := rfl
set_option maxRecDepth 100000 in
theorem am_c137 : lw_tbl[1174]? = some (.code am_m137.1 am_m137.2.1 am_m137.2.2.1 am_m137.2.2.2.1) := rfl
set_option maxRecDepth 100000 in
theorem am_c138 : lw_tbl[1190]? = some (.code am_m138.1 am_m138.2.1 am_m138.2.2.1 am_m138.2.2.2.1) := rfl
set_option maxRecDepth 100000 in
theorem am_c139 : lw_tbl[1206]? = some (.code am_m139.1 am_m139.2.1 am_m139.2.2.1 am_m139.2.2.2.1) := rfl
set_option maxRecDepth 100000 in
theorem am_c140 : lw_tbl[1244]? = some (.code am_m140.1 am_m140.2.1 am_m140.2.2.1 am_m140.2.2.2.1) := rfl
set_option maxRecDepth 100000 in
theorem am_c141 : lw_tbl[1275]? = some (.code am_m141.1 am_m141.2.1 am_m141.2.2.1 am_m141.2.2.2.1) := rfl
set_option maxRecDepth 100000 in
theorem am_c142 : lw_tbl[1280]? = some (.code am_m142.1 am_m142.2.1 am_m142.2.2.1 am_m142.2.2.2.1) := rfl
set_option maxRecDepth 100000 in
theorem am_c143 : lw_tbl[1294]? = some (.code am_m143.1 am_m143.2.1 am_m143.2.2.1 am_m143.2.2.2.1) := rfl
set_option maxRecDepth 100000 in
theorem am_c144 : lw_tbl[1304]? = some (.code am_m144.1 am_m144.2.1 am_m144.2.2.1 am_m144.2.2.2.1) := rfl
set_option maxRecDepth 100000 in
theorem am_c145 : lw_tbl[990]? = some (.code am_m145.1 am_m145.2.1 am_m145.2.2.1 am_m145.2.2.2.1) := rfl
set_option maxRecDepth 100000 in
theorem am_c146 : lw_tbl[887]? = some (.code am_m146.1 am_m146.2.1 am_m146.2.2.1 am_m146.2.2.2.1) := rfl
set_option maxRecDepth 100000 in
theorem am_c147 : lw_tbl[1104]? = some (.code am_m147.1 am_m147.2.1 am_m147.2.2.1 am_m147.2.2.2.1) := rfl
set_option maxRecDepth 100000 in
theorem am_c148 : lw_tbl[1092]? = some (.code am_m148.1 am_m148.2.1 am_m148.2.2.1 am_m148.2.2.2.1) := rfl
set_option maxRecDepth 100000 in
theorem am_c149 : lw_tbl[1097]? = some (.code am_m149.1 am_m149.2.1 am_m149.2.2.1 am_m149.2.2.2.1) := rfl
set_option maxRecDepth 100000 in
theorem am_c150 : lw_tbl[1161]? = some (.code am_m150.1 am_m150.2.1 am_m150.2.2.1 am_m150.2.2.2.1) := rfl
set_option maxRecDepth 100000 in
theorem am_c151 : lw_tbl[1165]? = some (.code am_m151.1 am_m151.2.1 am_m151.2.2.1 am_m151.2.2.2.1) := rfl
set_option maxRecDepth 100000 in
theorem am_c152 : lw_tbl[1169]? = some (.code am_m152.1 am_m152.2.1 am_m152.2.2.1 am_m152.2.2.2.1) := rfl
set_option maxRecDepth 100000 in
theorem am_c153 : lw_tbl[1182]? = some (.code am_m153.1 am_m153.2.1 am_m153.2.2.1 am_m153.2.2.2.1) := rfl
set_option maxRecDepth 100000 in
theorem am_c154 : lw_tbl[1178]? = some (.code am_m154.1 am_m154.2.1 am_m154.2.2.1 am_m154.2.2.2.1) := rfl
set_option maxRecDepth 100000 in
theorem am_c155 : lw_tbl[1198]? = some (.code am_m155.1 am_m155.2.1 am_m155.2.2.1 am_m155.2.2.2.1) := rfl
set_option maxRecDepth 100000 in
theorem am_c156 : lw_tbl[1202]? = some (.code am_m156.1 am_m156.2.1 am_m156.2.2.1 am_m156.2.2.2.1) := rfl
set_option maxRecDepth 100000 in
theorem am_c157 : lw_tbl[1283]? = some (.code am_m157.1 am_m157.2.1 am_m157.2.2.1 am_m157.2.2.2.1) := rfl
set_option maxRecDepth 100000 in
theorem am_c158 : lw_tbl[1289]? = some (.code am_m158.1 am_m158.2.1 am_m158.2.2.1 am_m158.2.2.2.1) := rfl
set_option maxRecDepth 100000 in
theorem am_c159 : lw_tbl[1384]? = some (.code am_m159.1 am_m159.2.1 am_m159.2.2.1 am_m159.2.2.2.1) := rfl
set_option maxRecDepth 100000 in
theorem am_c160 : lw_tbl[1594]? = some (.code am_m160.1 am_m160.2.1 am_m160.2.2.1 am_m160.2.2.2.1) := rfl
set_option maxRecDepth 100000 in
theorem am_c161 : lw_tbl[1713]? = some (.code am_m161.1 am_m161.2.1 am_m161.2.2.1 am_m161.2.2.2.1) := rfl
set_option maxRecDepth 100000 in
theorem am_c162 : lw_tbl[1912]? = some (.code am_m162.1 am_m162.2.1 am_m162.2.2.1 am_m162.2.2.2.1) := rfl
set_option maxRecDepth 100000 in
theorem am_c163 : lw_tbl[1880]? = some (.code am_m163.1 am_m163.2.1 am_m163.2.2.1 am_m163.2.2.2.1) := rfl
set_option maxRecDepth 100000 in
theorem am_c164 : lw_tbl[1598]? = some (.code am_m164.1 am_m164.2.1 am_m164.2.2.1 am_m164.2.2.2.1) := rfl
set_option maxRecDepth 100000 in
theorem am_c165 : lw_tbl[1619]? = some (.code am_m165.1 am_m165.2.1 am_m165.2.2.1 am_m165.2.2.2.1) := rfl
set_option maxRecDepth 100000 in
theorem am_c166 : lw_tbl[1615]? = some (.code am_m166.1 am_m166.2.1 am_m166.2.2.1 am_m166.2.2.2.1) := rfl
set_option maxRecDepth 100000 in
theorem am_c167 : lw_tbl[1626]? = some (.code am_m167.1 am_m167.2.1 am_m167.2.2.1 am_m167.2.2.2.1) := rfl
set_option maxRecDepth 100000 in
theorem am_c168 : lw_tbl[1690]? = some (.code am_m168.1 am_m168.2.1 am_m168.2.2.1 am_m168.2.2.2.1) := rfl
set_option maxRecDepth 100000 in
theorem am_c169 : lw_tbl[1634]? = some (.code am_m169.1 am_m169.2.1 am_m169.2.2.1 am_m169.2.2.2.1) := rfl
set_option maxRecDepth 100000 in
theorem am_c170 : lw_tbl[1744]? = some (.code am_m170.1 am_m170.2.1 am_m170.2.2.1 am_m170.2.2.2.1) := rfl
set_option maxRecDepth 100000 in
theorem am_c171 : lw_tbl[1737]? = some (.code am_m171.1 am_m171.2.1 am_m171.2.2.1 am_m171.2.2.2.1) := rfl
set_option maxRecDepth 100000 in
theorem am_c172 : lw_tbl[1733]? = some (.code am_m172.1 am_m172.2.1 am_m172.2.2.1 am_m172.2.2.2.1) := rfl
set_option maxRecDepth 100000 in
theorem am_c173 : lw_tbl[1888]? = some (.code am_m173.1 am_m173.2.1 am_m173.2.2.1 am_m173.2.2.2.1) := rfl
set_option maxRecDepth 100000 in
theorem am_c174 : lw_tbl[1892]? = some (.code am_m174.1 am_m174.2.1 am_m174.2.2.1 am_m174.2.2.2.1) := rfl
set_option maxRecDepth 100000 in
theorem am_c175 : lw_tbl[1896]? = some (.code am_m175.1 am_m175.2.1 am_m175.2.2.1 am_m175.2.2.2.1) := rfl
set_option maxRecDepth 100000 in
theorem am_c176 : lw_tbl[1884]? = some (.code am_m176.1 am_m176.2.1 am_m176.2.2.1 am_m176.2.2.2.1) := rfl
set_option maxRecDepth 100000 in
theorem am_c177 : lw_tbl[1642]? = some (.code am_m177.1 am_m177.2.1 am_m177.2.2.1 am_m177.2.2.2.1) := rfl
set_option maxRecDepth 100000 in
theorem am_c178 : lw_tbl[1674]? = some (.code am_m178.1 am_m178.2.1 am_m178.2.2.1 am_m178.2.2.2.1) := rfl
set_option maxRecDepth 100000 in
theorem am_c179 : lw_tbl[1671]? = some (.code am_m179.1 am_m179.2.1 am_m179.2.2.1 am_m179.2.2.2.1) := rfl
set_option maxRecDepth 100000 in
theorem am_c180 : lw_tbl[1678]? = some (.code am_m180.1 am_m180.2.1 am_m180.2.2.1 am_m180.2.2.2.1) := rfl
set_option maxRecDepth 100000 in
theorem am_c181 : lw_tbl[1682]? = some (.code am_m181.1 am_m181.2.1 am_m181.2.2.1 am_m181.2.2.2.1) := rfl
set_option maxRecDepth 100000 in
theorem am_c182 : lw_tbl[1710]? = some (.code am_m182.1 am_m182.2.1 am_m182.2.2.1 am_m182.2.2.2.1) := rfl
set_option maxRecDepth 100000 in
theorem am_c183 : lw_tbl[1706]? = some (.code am_m183.1 am_m183.2.1 am_m183.2.2.1 am_m183.2.2.2.1) := rfl
set_option maxRecDepth 100000 in
theorem am_c184 : lw_tbl[1702]? = some (.code am_m184.1 am_m184.2.1 am_m184.2.2.1 am_m184.2.2.2.1) := rfl
set_option maxRecDepth 100000 in
theorem am_c185 : lw_tbl[1694]? = some (.code am_m185.1 am_m185.2.1 am_m185.2.2.1 am_m185.2.2.2.1) := rfl
set_option maxRecDepth 100000 in
theorem am_c186 : lw_tbl[1638]? = some (.code am_m186.1 am_m186.2.1 am_m186.2.2.1 am_m186.2.2.2.1) := rfl
set_option maxRecDepth 100000 in
theorem am_c187 : lw_tbl[1686]? = some (.code am_m187.1 am_m187.2.1 am_m187.2.2.1 am_m187.2.2.2.1) := rfl
set_option maxRecDepth 100000 in
theorem am_c188 : lw_tbl[1630]? = some (.code am_m188.1 am_m188.2.1 am_m188.2.2.1 am_m188.2.2.2.1) := rfl
set_option maxRecDepth 100000 in
theorem am_c189 : lw_tbl[1698]? = some (.code am_m189.1 am_m189.2.1 am_m189.2.2.1 am_m189.2.2.2.1) := rfl
set_option maxRecDepth 100000 in
theorem am_c190 : lw_tbl[1717]? = some (.code am_m190.1 am_m190.2.1 am_m190.2.2.1 am_m190.2.2.2.1) := rfl
set_option maxRecDepth 100000 in
theorem am_c191 : lw_tbl[1721]? = some (.code am_m191.1 am_m191.2.1 am_m191.2.2.1 am_m191.2.2.2.1) := rfl
set_option maxRecDepth 100000 in
theorem am_c192 : lw_tbl[1725]? = some (.code am_m192.1 am_m192.2.1 am_m192.2.2.1 am_m192.2.2.2.1) := rfl
set_option maxRecDepth 100000 in
theorem am_c193 : lw_tbl[1729]? = some (.code am_m193.1 am_m193.2.1 am_m193.2.2.1 am_m193.2.2.2.1) := rfl
set_option maxRecDepth 100000 in
theorem am_c194 : lw_tbl[1748]? = some (.code am_m194.1 am_m194.2.1 am_m194.2.2.1 am_m194.2.2.2.1) := rfl
set_option maxRecDepth 100000 in
theorem am_c195 : lw_tbl[1611]? = some (.code am_m195.1 am_m195.2.1 am_m195.2.2.1 am_m195.2.2.2.1) := rfl
set_option maxRecDepth 100000 in
theorem am_c196 : lw_tbl[1607]? = some (.code am_m196.1 am_m196.2.1 am_m196.2.2.1 am_m196.2.2.2.1) := rfl
set_option maxRecDepth 100000 in
theorem am_c197 : lw_tbl[1755]? = some (.code am_m197.1 am_m197.2.1 am_m197.2.2.1 am_m197.2.2.2.1) := rfl
set_option maxRecDepth 100000 in
theorem am_c198 : lw_tbl[1758]? = some (.code am_m198.1 am_m198.2.1 am_m198.2.2.1 am_m198.2.2.2.1) := rfl
set_option maxRecDepth 100000 in
theorem am_c199 : lw_tbl[1752]? = some (.code am_m199.1 am_m199.2.1 am_m199.2.2.1 am_m199.2.2.2.1) := rfl
set_option maxRecDepth 100000 in
theorem am_c200 : lw_tbl[1774]? = some (.code am_m200.1 am_m200.2.1 am_m200.2.2.1 am_m200.2.2.2.1) := rfl
set_option maxRecDepth 100000 in
theorem am_c201 : lw_tbl[1778]? = some (.code am_m201.1 am_m201.2.1 am_m201.2.2.1 am_m201.2.2.2.1) := rfl
set_option maxRecDepth 100000 in
theorem am_c202 : lw_tbl[1770]? = some (.code am_m202.1 am_m202.2.1 am_m202.2.2.1 am_m202.2.2.2.1) := rfl
set_option maxRecDepth 100000 in
theorem am_c203 : lw_tbl[1782]? = some (.code am_m203.1 am_m203.2.1 am_m203.2.2.1 am_m203.2.2.2.1) := rfl
set_option maxRecDepth 100000 in
theorem am_c204 : lw_tbl[2069]? = some (.code am_m204.1 am_m204.2.1 am_m204.2.2.1 am_m204.2.2.2.1) := rfl
set_option maxRecDepth 100000 in
theorem am_c205 : lw_tbl[1857]? = some (.code am_m205.1 am_m205.2.1 am_m205.2.2.1 am_m205.2.2.2.1) := rfl
set_option maxRecDepth 100000 in
theorem am_c206 : lw_tbl[1762]? = some (.code am_m206.1 am_m206.2.1 am_m206.2.2.1 am_m206.2.2.2.1) := rfl
set_option maxRecDepth 100000 in
theorem am_c207 : lw_tbl[1603]? = some (.code am_m207.1 am_m207.2.1 am_m207.2.2.1 am_m207.2.2.2.1) := rfl
set_option maxRecDepth 100000 in
theorem am_c208 : lw_tbl[1766]? = some (.code am_m208.1 am_m208.2.1 am_m208.2.2.1 am_m208.2.2.2.1) := rfl
set_option maxRecDepth 100000 in
theorem am_c209 : lw_tbl[1790]? = some (.code am_m209.1 am_m209.2.1 am_m209.2.2.1 am_m209.2.2.2.1) := rfl
set_option maxRecDepth 100000 in
theorem am_c210 : lw_tbl[1798]? = some (.code am_m210.1 am_m210.2.1 am_m210.2.2.1 am_m210.2.2.2.1) := rfl
set_option maxRecDepth 100000 in
theorem am_c211 : lw_tbl[1806]? = some (.code am_m211.1 am_m211.2.1 am_m211.2.2.1 am_m211.2.2.2.1) := rfl
set_option maxRecDepth 100000 in
theorem am_c212 : lw_tbl[1838]? = some (.code am_m212.1 am_m212.2.1 am_m212.2.2.1 am_m212.2.2.2.1) := rfl
set_option maxRecDepth 100000 in
theorem am_c213 : lw_tbl[1802]? = some (.code am_m213.1 am_m213.2.1 am_m213.2.2.1 am_m213.2.2.2.1) := rfl
set_option maxRecDepth 100000 in
theorem am_c214 : lw_tbl[1786]? = some (.code am_m214.1 am_m214.2.1 am_m214.2.2.1 am_m214.2.2.2.1) := rfl
set_option maxRecDepth 100000 in
theorem am_c215 : lw_tbl[1794]? = some (.code am_m215.1 am_m215.2.1 am_m215.2.2.1 am_m215.2.2.2.1) := rfl
set_option maxRecDepth 100000 in
theorem am_c216 : lw_tbl[1822]? = some (.code am_m216.1 am_m216.2.1 am_m216.2.2.1 am_m216.2.2.2.1) := rfl
set_option maxRecDepth 100000 in
theorem am_c217 : lw_tbl[1814]? = some (.code am_m217.1 am_m217.2.1 am_m217.2.2.1 am_m217.2.2.2.1) := rfl
set_option maxRecDepth 100000 in
theorem am_c218 : lw_tbl[1818]? = some (.code am_m218.1 am_m218.2.1 am_m218.2.2.1 am_m218.2.2.2.1) := rfl
set_option maxRecDepth 100000 in
theorem am_c219 : lw_tbl[1830]? = some (.code am_m219.1 am_m219.2.1 am_m219.2.2.1 am_m219.2.2.2.1) := rfl
set_option maxRecDepth 100000 in
theorem am_c220 : lw_tbl[1826]? = some (.code am_m220.1 am_m220.2.1 am_m220.2.2.1 am_m220.2.2.2.1) := rfl
set_option maxRecDepth 100000 in
theorem am_c221 : lw_tbl[2029]? = some (.code am_m221.1 am_m221.2.1 am_m221.2.2.1 am_m221.2.2.2.1) := rfl
set_option maxRecDepth 100000 in
theorem am_c222 : lw_tbl[1810]? = some (.code am_m222.1 am_m222.2.1 am_m222.2.2.1 am_m222.2.2.2.1) := rfl
set_option maxRecDepth 100000 in
theorem am_c223 : lw_tbl[1834]? = some (.code am_m223.1 am_m223.2.1 am_m223.2.2.1 am_m223.2.2.2.1) := rfl
set_option maxRecDepth 100000 in
theorem am_c224 : lw_tbl[1854]? = some (.code am_m224.1 am_m224.2.1 am_m224.2.2.1 am_m224.2.2.2.1) := rfl
set_option maxRecDepth 100000 in
theorem am_c225 : lw_tbl[1850]? = some (.code am_m225.1 am_m225.2.1 am_m225.2.2.1 am_m225.2.2.2.1) := rfl
set_option maxRecDepth 100000 in
theorem am_c226 : lw_tbl[1865]? = some (.code am_m226.1 am_m226.2.1 am_m226.2.2.1 am_m226.2.2.2.1) := rfl
set_option maxRecDepth 100000 in
theorem am_c227 : lw_tbl[1846]? = some (.code am_m227.1 am_m227.2.1 am_m227.2.2.1 am_m227.2.2.2.1) := rfl
set_option maxRecDepth 100000 in
theorem am_c228 : lw_tbl[1861]? = some (.code am_m228.1 am_m228.2.1 am_m228.2.2.1 am_m228.2.2.2.1) := rfl
set_option maxRecDepth 100000 in
theorem am_c229 : lw_tbl[1842]? = some (.code am_m229.1 am_m229.2.1 am_m229.2.2.1 am_m229.2.2.2.1) := rfl
set_option maxRecDepth 100000 in
theorem am_c230 : lw_tbl[1873]? = some (.code am_m230.1 am_m230.2.1 am_m230.2.2.1 am_m230.2.2.2.1) := rfl
set_option maxRecDepth 100000 in
theorem am_c231 : lw_tbl[1877]? = some (.code am_m231.1 am_m231.2.1 am_m231.2.2.1 am_m231.2.2.2.1) := rfl
set_option maxRecDepth 100000 in
theorem am_c232 : lw_tbl[1869]? = some (.code am_m232.1 am_m232.2.1 am_m232.2.2.1 am_m232.2.2.2.1) := rfl
set_option maxRecDepth 100000 in
theorem am_c233 : lw_tbl[1905]? = some (.code am_m233.1 am_m233.2.1 am_m233.2.2.1 am_m233.2.2.2.1) := rfl
set_option maxRecDepth 100000 in
theorem am_c234 : lw_tbl[1909]? = some (.code am_m234.1 am_m234.2.1 am_m234.2.2.1 am_m234.2.2.2.1) := rfl
set_option maxRecDepth 100000 in
theorem am_c235 : lw_tbl[1901]? = some (.code am_m235.1 am_m235.2.1 am_m235.2.2.1 am_m235.2.2.2.1) := rfl
set_option maxRecDepth 100000 in
theorem am_c236 : lw_tbl[1920]? = some (.code am_m236.1 am_m236.2.1 am_m236.2.2.1 am_m236.2.2.2.1) := rfl
set_option maxRecDepth 100000 in
theorem am_c237 : lw_tbl[1916]? = some (.code am_m237.1 am_m237.2.1 am_m237.2.2.1 am_m237.2.2.2.1) := rfl
set_option maxRecDepth 100000 in
theorem am_c238 : lw_tbl[1928]? = some (.code am_m238.1 am_m238.2.1 am_m238.2.2.1 am_m238.2.2.2.1) := rfl
set_option maxRecDepth 100000 in
theorem am_c239 : lw_tbl[1924]? = some (.code am_m239.1 am_m239.2.1 am_m239.2.2.1 am_m239.2.2.2.1) := rfl
set_option maxRecDepth 100000 in
theorem am_c240 : lw_tbl[1932]? = some (.code am_m240.1 am_m240.2.1 am_m240.2.2.1 am_m240.2.2.2.1) := rfl
set_option maxRecDepth 100000 in
theorem am_c241 : lw_tbl[1944]? = some (.code am_m241.1 am_m241.2.1 am_m241.2.2.1 am_m241.2.2.2.1) := rfl
set_option maxRecDepth 100000 in
theorem am_c242 : lw_tbl[1948]? = some (.code am_m242.1 am_m242.2.1 am_m242.2.2.1 am_m242.2.2.2.1) := rfl
set_option maxRecDepth 100000 in
theorem am_c243 : lw_tbl[1940]? = some (.code am_m243.1 am_m243.2.1 am_m243.2.2.1 am_m243.2.2.2.1) := rfl
set_option maxRecDepth 100000 in
theorem am_c244 : lw_tbl[1936]? = some (.code am_m244.1 am_m244.2.1 am_m244.2.2.1 am_m244.2.2.2.1) := rfl
set_option maxRecDepth 100000 in
theorem am_c245 : lw_tbl[1956]? = some (.code am_m245.1 am_m245.2.1 am_m245.2.2.1 am_m245.2.2.2.1) := rfl
set_option maxRecDepth 100000 in
theorem am_c246 : lw_tbl[1952]? = some (.code am_m246.1 am_m246.2.1 am_m246.2.2.1 am_m246.2.2.2.1) := rfl
set_option maxRecDepth 100000 in
theorem am_c247 : lw_tbl[1964]? = some (.code am_m247.1 am_m247.2.1 am_m247.2.2.1 am_m247.2.2.2.1) := rfl
set_option maxRecDepth 100000 in
theorem am_c248 : lw_tbl[1960]? = some (.code am_m248.1 am_m248.2.1 am_m248.2.2.1 am_m248.2.2.2.1) := rfl
set_option maxRecDepth 100000 in
theorem am_c249 : lw_tbl[1968]? = some (.code am_m249.1 am_m249.2.1 am_m249.2.2.1 am_m249.2.2.2.1) := rfl
set_option maxRecDepth 100000 in
theorem am_c250 : lw_tbl[1976]? = some (.code am_m250.1 am_m250.2.1 am_m250.2.2.1 am_m250.2.2.2.1) := rfl
set_option maxRecDepth 100000 in
theorem am_c251 : lw_tbl[1972]? = some (.code am_m251.1 am_m251.2.1 am_m251.2.2.1 am_m251.2.2.2.1) := rfl
set_option maxRecDepth 100000 in
theorem am_c252 : lw_tbl[1984]? = some (.code am_m252.1 am_m252.2.1 am_m252.2.2.1 am_m252.2.2.2.1) := rfl
set_option maxRecDepth 100000 in
theorem am_c253 : lw_tbl[1980]? = some (.code am_m253.1 am_m253.2.1 am_m253.2.2.1 am_m253.2.2.2.1) := rfl
set_option maxRecDepth 100000 in
theorem am_c254 : lw_tbl[1989]? = some (.code am_m254.1 am_m254.2.1 am_m254.2.2.1 am_m254.2.2.2.1) := rfl
set_option maxRecDepth 100000 in
theorem am_c255 : lw_tbl[2001]? = some (.code am_m255.1 am_m255.2.1 am_m255.2.2.1 am_m255.2.2.2.1) := rfl
set_option maxRecDepth 100000 in
theorem am_c256 : lw_tbl[1997]? = some (.code am_m256.1 am_m256.2.1 am_m256.2.2.1 am_m256.2.2.2.1) := rfl
set_option maxRecDepth 100000 in
theorem am_c257 : lw_tbl[1993]? = some (.code am_m257.1 am_m257.2.1 am_m257.2.2.1 am_m257.2.2.2.1) := rfl
set_option maxRecDepth 100000 in
theorem am_c258 : lw_tbl[2009]? = some (.code am_m258.1 am_m258.2.1 am_m258.2.2.1 am_m258.2.2.2.1) := rfl
set_option maxRecDepth 100000 in
theorem am_c259 : lw_tbl[2005]? = some (.code am_m259.1 am_m259.2.1 am_m259.2.2.1 am_m259.2.2.2.1) := rfl
set_option maxRecDepth 100000 in
theorem am_c260 : lw_tbl[2013]? = some (.code am_m260.1 am_m260.2.1 am_m260.2.2.1 am_m260.2.2.2.1) := rfl
set_option maxRecDepth 100000 in
theorem am_c261 : lw_tbl[2025]? = some (.code am_m261.1 am_m261.2.1 am_m261.2.2.1 am_m261.2.2.2.1) := rfl
set_option maxRecDepth 100000 in
theorem am_c262 : lw_tbl[2021]? = some (.code am_m262.1 am_m262.2.1 am_m262.2.2.1 am_m262.2.2.2.1) := rfl
set_option maxRecDepth 100000 in
theorem am_c263 : lw_tbl[2017]? = some (.code am_m263.1 am_m263.2.1 am_m263.2.2.1 am_m263.2.2.2.1) := rfl
set_option maxRecDepth 100000 in
theorem am_c264 : lw_tbl[2042]? = some (.code am_m264.1 am_m264.2.1 am_m264.2.2.1 am_m264.2.2.2.1) := rfl
set_option maxRecDepth 100000 in
theorem am_c265 : lw_tbl[2038]? = some (.code am_m265.1 am_m265.2.1 am_m265.2.2.1 am_m265.2.2.2.1) := rfl
set_option maxRecDepth 100000 in
theorem am_c266 : lw_tbl[2033]? = some (.code am_m266.1 am_m266.2.1 am_m266.2.2.1 am_m266.2.2.2.1) := rfl
set_option maxRecDepth 100000 in
theorem am_c267 : lw_tbl[2049]? = some (.code am_m267.1 am_m267.2.1 am_m267.2.2.1 am_m267.2.2.2.1) := rfl
set_option maxRecDepth 100000 in
theorem am_c268 : lw_tbl[2057]? = some (.code am_m268.1 am_m268.2.1 am_m268.2.2.1 am_m268.2.2.2.1) := rfl
set_option maxRecDepth 100000 in
theorem am_c269 : lw_tbl[2053]? = some (.code am_m269.1 am_m269.2.1 am_m269.2.2.1 am_m269.2.2.2.1) := rfl
set_option maxRecDepth 100000 in
theorem am_c270 : lw_tbl[2065]? = some (.code am_m270.1 am_m270.2.1 am_m270.2.2.1 am_m270.2.2.2.1) := rfl
set_option maxRecDepth 100000 in
theorem am_c271 : lw_tbl[2073]? = some (.code am_m271.1 am_m271.2.1 am_m271.2.2.1 am_m271.2.2.2.1) := rfl
set_option maxRecDepth 100000 in
theorem am_c272 : lw_tbl[1004]? = some (.code am_m272.1 am_m272.2.1 am_m272.2.2.1 am_m272.2.2.2.1) := rfl
set_option maxRecDepth 100000 in
theorem am_c273 : lw_tbl[993]? = some (.code am_m273.1 am_m273.2.1 am_m273.2.2.1 am_m273.2.2.2.1) := rfl
set_option maxRecDepth 100000 in
theorem am_c274 : lw_tbl[738]? = some (.code am_m274.1 am_m274.2.1 am_m274.2.2.1 am_m274.2.2.2.1) := rfl
set_option maxRecDepth 100000 in
theorem am_c275 : lw_tbl[248]? = some (.code am_m275.1 am_m275.2.1 am_m275.2.2.1 am_m275.2.2.2.1) := rfl
set_option maxRecDepth 100000 in
theorem am_c276 : lw_tbl[676]? = some (.code am_m276.1 am_m276.2.1 am_m276.2.2.1 am_m276.2.2.2.1) := rfl
set_option maxRecDepth 100000 in
theorem am_c277 : lw_tbl[686]? = some (.code am_m277.1 am_m277.2.1 am_m277.2.2.1 am_m277.2.2.2.1) := rfl
theorem am_CW_0 : ∀ e ∈ am_MP_0, lw_tbl[e.2.1]? = some (.code e.1.1 e.1.2.1 e.1.2.2.1 e.1.2.2.2.1) := List.forall_mem_cons.mpr ⟨am_c0, List.forall_mem_cons.mpr ⟨am_c1, List.forall_mem_cons.mpr ⟨am_c2, List.forall_mem_cons.mpr ⟨am_c3, List.forall_mem_cons.mpr ⟨am_c4, List.forall_mem_cons.mpr ⟨am_c5, List.forall_mem_cons.mpr ⟨am_c6, List.forall_mem_cons.mpr ⟨am_c7, List.forall_mem_cons.mpr ⟨am_c8, List.forall_mem_cons.mpr ⟨am_c9, List.forall_mem_cons.mpr ⟨am_c10, List.forall_mem_cons.mpr ⟨am_c11, fun _ h => absurd h List.not_mem_nil⟩⟩⟩⟩⟩⟩⟩⟩⟩⟩⟩⟩
theorem am_CW_1 : ∀ e ∈ am_MP_1, lw_tbl[e.2.1]? = some (.code e.1.1 e.1.2.1 e.1.2.2.1 e.1.2.2.2.1) := List.forall_mem_cons.mpr ⟨am_c12, List.forall_mem_cons.mpr ⟨am_c13, List.forall_mem_cons.mpr ⟨am_c14, List.forall_mem_cons.mpr ⟨am_c15, List.forall_mem_cons.mpr ⟨am_c16, List.forall_mem_cons.mpr ⟨am_c17, List.forall_mem_cons.mpr ⟨am_c18, List.forall_mem_cons.mpr ⟨am_c19, List.forall_mem_cons.mpr ⟨am_c20, List.forall_mem_cons.mpr ⟨am_c21, List.forall_mem_cons.mpr ⟨am_c22, List.forall_mem_cons.mpr ⟨am_c23, fun _ h => absurd h List.not_mem_nil⟩⟩⟩⟩⟩⟩⟩⟩⟩⟩⟩⟩
theorem am_CW_2 : ∀ e ∈ am_MP_2, lw_tbl[e.2.1]? = some (.code e.1.1 e.1.2.1 e.1.2.2.1 e.1.2.2.2.1) := List.forall_mem_cons.mpr ⟨am_c24, List.forall_mem_cons.mpr ⟨am_c25, List.forall_mem_cons.mpr ⟨am_c26, List.forall_mem_cons.mpr ⟨am_c27, List.forall_mem_cons.mpr ⟨am_c28, List.forall_mem_cons.mpr ⟨am_c29, List.forall_mem_cons.mpr ⟨am_c30, List.forall_mem_cons.mpr ⟨am_c31, List.forall_mem_cons.mpr ⟨am_c32, List.forall_mem_cons.mpr ⟨am_c33, List.forall_mem_cons.mpr ⟨am_c34, List.forall_mem_cons.mpr ⟨am_c35, fun _ h => absurd h List.not_mem_nil⟩⟩⟩⟩⟩⟩⟩⟩⟩⟩⟩⟩
theorem am_CW_3 : ∀ e ∈ am_MP_3, lw_tbl[e.2.1]? = some (.code e.1.1 e.1.2.1 e.1.2.2.1 e.1.2.2.2.1) := List.forall_mem_cons.mpr ⟨am_c36, List.forall_mem_cons.mpr ⟨am_c37, List.forall_mem_cons.mpr ⟨am_c38, List.forall_mem_cons.mpr ⟨am_c39, List.forall_mem_cons.mpr ⟨am_c40, List.forall_mem_cons.mpr ⟨am_c41, List.forall_mem_cons.mpr ⟨am_c42, List.forall_mem_cons.mpr ⟨am_c43, List.forall_mem_cons.mpr ⟨am_c44, List.forall_mem_cons.mpr ⟨am_c45, List.forall_mem_cons.mpr ⟨am_c46, List.forall_mem_cons.mpr ⟨am_c47, fun _ h => absurd h List.not_mem_nil⟩⟩⟩⟩⟩⟩⟩⟩⟩⟩⟩⟩
theorem am_CW_4 : ∀ e ∈ am_MP_4, lw_tbl[e.2.1]? = some (.code e.1.1 e.1.2.1 e.1.2.2.1 e.1.2.2.2.1) := List.forall_mem_cons.mpr ⟨am_c48, List.forall_mem_cons.mpr ⟨am_c49, List.forall_mem_cons.mpr ⟨am_c50, List.forall_mem_cons.mpr ⟨am_c51, List.forall_mem_cons.mpr ⟨am_c52, List.forall_mem_cons.mpr ⟨am_c53, List.forall_mem_cons.mpr ⟨am_c54, List.forall_mem_cons.mpr ⟨am_c55, List.forall_mem_cons.mpr ⟨am_c56, List.forall_mem_cons.mpr ⟨am_c57, List.forall_mem_cons.mpr ⟨am_c58, List.forall_mem_cons.mpr ⟨am_c59, fun _ h => absurd h List.not_mem_nil⟩⟩⟩⟩⟩⟩⟩⟩⟩⟩⟩⟩
theorem am_CW_5 : ∀ e ∈ am_MP_5, lw_tbl[e.2.1]? = some (.code e.1.1 e.1.2.1 e.1.2.2.1 e.1.2.2.2.1) := List.forall_mem_cons.mpr ⟨am_c60, List.forall_mem_cons.mpr ⟨am_c61, List.forall_mem_cons.mpr ⟨am_c62, List.forall_mem_cons.mpr ⟨am_c63, List.forall_mem_cons.mpr ⟨am_c64, List.forall_mem_cons.mpr ⟨am_c65, List.forall_mem_cons.mpr ⟨am_c66, List.forall_mem_cons.mpr ⟨am_c67, List.forall_mem_cons.mpr ⟨am_c68, List.forall_mem_cons.mpr ⟨am_c69, List.forall_mem_cons.mpr ⟨am_c70, List.forall_mem_cons.mpr ⟨am_c71, fun _ h => absurd h List.not_mem_nil⟩⟩⟩⟩⟩⟩⟩⟩⟩⟩⟩⟩
theorem am_CW_6 : ∀ e ∈ am_MP_6, lw_tbl[e.2.1]? = some (.code e.1.1 e.1.2.1 e.1.2.2.1 e.1.2.2.2.1) := List.forall_mem_cons.mpr ⟨am_c72, List.forall_mem_cons.mpr ⟨am_c73, List.forall_mem_cons.mpr ⟨am_c74, List.forall_mem_cons.mpr ⟨am_c75, List.forall_mem_cons.mpr ⟨am_c76, List.forall_mem_cons.mpr ⟨am_c77, List.forall_mem_cons.mpr ⟨am_c78, List.forall_mem_cons.mpr ⟨am_c79, List.forall_mem_cons.mpr ⟨am_c80, List.forall_mem_cons.mpr ⟨am_c81, List.forall_mem_cons.mpr ⟨am_c82, List.forall_mem_cons.mpr ⟨am_c83, fun _ h => absurd h List.not_mem_nil⟩⟩⟩⟩⟩⟩⟩⟩⟩⟩⟩⟩
theorem am_CW_7 : ∀ e ∈ am_MP_7, lw_tbl[e.2.1]? = some (.code e.1.1 e.1.2.1 e.1.2.2.1 e.1.2.2.2.1) := List.forall_mem_cons.mpr ⟨am_c84, List.forall_mem_cons.mpr ⟨am_c85, List.forall_mem_cons.mpr ⟨am_c86, List.forall_mem_cons.mpr ⟨am_c87, List.forall_mem_cons.mpr ⟨am_c88, List.forall_mem_cons.mpr ⟨am_c89, List.forall_mem_cons.mpr ⟨am_c90, List.forall_mem_cons.mpr ⟨am_c91, List.forall_mem_cons.mpr ⟨am_c92, List.forall_mem_cons.mpr ⟨am_c93, List.forall_mem_cons.mpr ⟨am_c94, List.forall_mem_cons.mpr ⟨am_c95, fun _ h => absurd h List.not_mem_nil⟩⟩⟩⟩⟩⟩⟩⟩⟩⟩⟩⟩
theorem am_CW_8 : ∀ e ∈ am_MP_8, lw_tbl[e.2.1]? = some (.code e.1.1 e.1.2.1 e.1.2.2.1 e.1.2.2.2.1) := List.forall_mem_cons.mpr ⟨am_c96, List.forall_mem_cons.mpr ⟨am_c97, List.forall_mem_cons.mpr ⟨am_c98, List.forall_mem_cons.mpr ⟨am_c99, List.forall_mem_cons.mpr ⟨am_c100, List.forall_mem_cons.mpr ⟨am_c101, List.forall_mem_cons.mpr ⟨am_c102, List.forall_mem_cons.mpr ⟨am_c103, List.forall_mem_cons.mpr ⟨am_c104, List.forall_mem_cons.mpr ⟨am_c105, List.forall_mem_cons.mpr ⟨am_c106, List.forall_mem_cons.mpr ⟨am_c107, fun _ h => absurd h List.not_mem_nil⟩⟩⟩⟩⟩⟩⟩⟩⟩⟩⟩⟩
theorem am_CW_9 : ∀ e ∈ am_MP_9, lw_tbl[e.2.1]? = some (.code e.1.1 e.1.2.1 e.1.2.2.1 e.1.2.2.2.1) := List.forall_mem_cons.mpr ⟨am_c108, List.forall_mem_cons.mpr ⟨am_c109, List.forall_mem_cons.mpr ⟨am_c110, List.forall_mem_cons.mpr ⟨am_c111, List.forall_mem_cons.mpr ⟨am_c112, List.forall_mem_cons.mpr ⟨am_c113, List.forall_mem_cons.mpr ⟨am_c114, List.forall_mem_cons.mpr ⟨am_c115, List.forall_mem_cons.mpr ⟨am_c116, List.forall_mem_cons.mpr ⟨am_c117, List.forall_mem_cons.mpr ⟨am_c118, List.forall_mem_cons.mpr ⟨am_c119, fun _ h => absurd h List.not_mem_nil⟩⟩⟩⟩⟩⟩⟩⟩⟩⟩⟩⟩
theorem am_CW_10 : ∀ e ∈ am_MP_10, lw_tbl[e.2.1]? = some (.code e.1.1 e.1.2.1 e.1.2.2.1 e.1.2.2.2.1) := List.forall_mem_cons.mpr ⟨am_c120, List.forall_mem_cons.mpr ⟨am_c121, List.forall_mem_cons.mpr ⟨am_c122, List.forall_mem_cons.mpr ⟨am_c123, List.forall_mem_cons.mpr ⟨am_c124, List.forall_mem_cons.mpr ⟨am_c125, List.forall_mem_cons.mpr ⟨am_c126, List.forall_mem_cons.mpr ⟨am_c127, List.forall_mem_cons.mpr ⟨am_c128, List.forall_mem_cons.mpr ⟨am_c129, List.forall_mem_cons.mpr ⟨am_c130, List.forall_mem_cons.mpr ⟨am_c131, fun _ h => absurd h List.not_mem_nil⟩⟩⟩⟩⟩⟩⟩⟩⟩⟩⟩⟩
theorem am_CW_11 : ∀ e ∈ am_MP_11, lw_tbl[e.2.1]? = some (.code e.1.1 e.1.2.1 e.1.2.2.1 e.1.2.2.2.1) := List.forall_mem_cons.mpr ⟨am_c132, List.forall_mem_cons.mpr ⟨am_c133, List.forall_mem_cons.mpr ⟨am_c134, List.forall_mem_cons.mpr ⟨am_c135, List.forall_mem_cons.mpr ⟨am_c136, List.forall_mem_cons.mpr ⟨am_c137, List.forall_mem_cons.mpr ⟨am_c138, List.forall_mem_cons.mpr ⟨am_c139, List.forall_mem_cons.mpr ⟨am_c140, List.forall_mem_cons.mpr ⟨am_c141, List.forall_mem_cons.mpr ⟨am_c142, List.forall_mem_cons.mpr ⟨am_c143, fun _ h => absurd h List.not_mem_nil⟩⟩⟩⟩⟩⟩⟩⟩⟩⟩⟩⟩
theorem am_CW_12 : ∀ e ∈ am_MP_12, lw_tbl[e.2.1]? = some (.code e.1.1 e.1.2.1 e.1.2.2.1 e.1.2.2.2.1) := List.forall_mem_cons.mpr ⟨am_c144, List.forall_mem_cons.mpr ⟨am_c145, List.forall_mem_cons.mpr ⟨am_c146, List.forall_mem_cons.mpr ⟨am_c147, List.forall_mem_cons.mpr ⟨am_c148, List.forall_mem_cons.mpr ⟨am_c149, List.forall_mem_cons.mpr ⟨am_c150, List.forall_mem_cons.mpr ⟨am_c151, List.forall_mem_cons.mpr ⟨am_c152, List.forall_mem_cons.mpr ⟨am_c153, List.forall_mem_cons.mpr ⟨am_c154, List.forall_mem_cons.mpr ⟨am_c155, fun _ h => absurd h List.not_mem_nil⟩⟩⟩⟩⟩⟩⟩⟩⟩⟩⟩⟩
theorem am_CW_13 : ∀ e ∈ am_MP_13, lw_tbl[e.2.1]? = some (.code e.1.1 e.1.2.1 e.1.2.2.1 e.1.2.2.2.1) := List.forall_mem_cons.mpr ⟨am_c156, List.forall_mem_cons.mpr ⟨am_c157, List.forall_mem_cons.mpr ⟨am_c158, List.forall_mem_cons.mpr ⟨am_c159, List.forall_mem_cons.mpr ⟨am_c160, List.forall_mem_cons.mpr ⟨am_c161, List.forall_mem_cons.mpr ⟨am_c162, List.forall_mem_cons.mpr ⟨am_c163, List.forall_mem_cons.mpr ⟨am_c164, List.forall_mem_cons.mpr ⟨am_c165, List.forall_mem_cons.mpr ⟨am_c166, List.forall_mem_cons.mpr ⟨am_c167, fun _ h => absurd h List.not_mem_nil⟩⟩⟩⟩⟩⟩⟩⟩⟩⟩⟩⟩
theorem am_CW_14 : ∀ e ∈ am_MP_14, lw_tbl[e.2.1]? = some (.code e.1.1 e.1.2.1 e.1.2.2.1 e.1.2.2.2.1) := List.forall_mem_cons.mpr ⟨am_c168, List.forall_mem_cons.mpr ⟨am_c169, List.forall_mem_cons.mpr ⟨am_c170, List.forall_mem_cons.mpr ⟨am_c171, List.forall_mem_cons.mpr ⟨am_c172, List.forall_mem_cons.mpr ⟨am_c173, List.forall_mem_cons.mpr ⟨am_c174, List.forall_mem_cons.mpr ⟨am_c175, List.forall_mem_cons.mpr ⟨am_c176, List.forall_mem_cons.mpr ⟨am_c177, List.forall_mem_cons.mpr ⟨am_c178, List.forall_mem_cons.mpr ⟨am_c179, fun _ h => absurd h List.not_mem_nil⟩⟩⟩⟩⟩⟩⟩⟩⟩⟩⟩⟩
theorem am_CW_15 : ∀ e ∈ am_MP_15, lw_tbl[e.2.1]? = some (.code e.1.1 e.1.2.1 e.1.2.2.1 e.1.2.2.2.1) := List.forall_mem_cons.mpr ⟨am_c180, List.forall_mem_cons.mpr ⟨am_c181, List.forall_mem_cons.mpr ⟨am_c182, List.forall_mem_cons.mpr ⟨am_c183, List.forall_mem_cons.mpr ⟨am_c184, List.forall_mem_cons.mpr ⟨am_c185, List.forall_mem_cons.mpr ⟨am_c186, List.forall_mem_cons.mpr ⟨am_c187, List.forall_mem_cons.mpr ⟨am_c188, List.forall_mem_cons.mpr ⟨am_c189, List.forall_mem_cons.mpr ⟨am_c190, List.forall_mem_cons.mpr ⟨am_c191, fun _ h => absurd h List.not_mem_nil⟩⟩⟩⟩⟩⟩⟩⟩⟩⟩⟩⟩
theorem am_CW_16 : ∀ e ∈ am_MP_16, lw_tbl[e.2.1]? = some (.code e.1.1 e.1.2.1 e.1.2.2.1 e.1.2.2.2.1) := List.forall_mem_cons.mpr ⟨am_c192, List.forall_mem_cons.mpr ⟨am_c193, List.forall_mem_cons.mpr ⟨am_c194, List.forall_mem_cons.mpr ⟨am_c195, List.forall_mem_cons.mpr ⟨am_c196, List.forall_mem_cons.mpr ⟨am_c197, List.forall_mem_cons.mpr ⟨am_c198, List.forall_mem_cons.mpr ⟨am_c199, List.forall_mem_cons.mpr ⟨am_c200, List.forall_mem_cons.mpr ⟨am_c201, List.forall_mem_cons.mpr ⟨am_c202, List.forall_mem_cons.mpr ⟨am_c203, fun _ h => absurd h List.not_mem_nil⟩⟩⟩⟩⟩⟩⟩⟩⟩⟩⟩⟩
theorem am_CW_17 : ∀ e ∈ am_MP_17, lw_tbl[e.2.1]? = some (.code e.1.1 e.1.2.1 e.1.2.2.1 e.1.2.2.2.1) := List.forall_mem_cons.mpr ⟨am_c204, List.forall_mem_cons.mpr ⟨am_c205, List.forall_mem_cons.mpr ⟨am_c206, List.forall_mem_cons.mpr ⟨am_c207, List.forall_mem_cons.mpr ⟨am_c208, List.forall_mem_cons.mpr ⟨am_c209, List.forall_mem_cons.mpr ⟨am_c210, List.forall_mem_cons.mpr ⟨am_c211, List.forall_mem_cons.mpr ⟨am_c212, List.forall_mem_cons.mpr ⟨am_c213, List.forall_mem_cons.mpr ⟨am_c214, List.forall_mem_cons.mpr ⟨am_c215, fun _ h => absurd h List.not_mem_nil⟩⟩⟩⟩⟩⟩⟩⟩⟩⟩⟩⟩
theorem am_CW_18 : ∀ e ∈ am_MP_18, lw_tbl[e.2.1]? = some (.code e.1.1 e.1.2.1 e.1.2.2.1 e.1.2.2.2.1) := List.forall_mem_cons.mpr ⟨am_c216, List.forall_mem_cons.mpr ⟨am_c217, List.forall_mem_cons.mpr ⟨am_c218, List.forall_mem_cons.mpr ⟨am_c219, List.forall_mem_cons.mpr ⟨am_c220, List.forall_mem_cons.mpr ⟨am_c221, List.forall_mem_cons.mpr ⟨am_c222, List.forall_mem_cons.mpr ⟨am_c223, List.forall_mem_cons.mpr ⟨am_c224, List.forall_mem_cons.mpr ⟨am_c225, List.forall_mem_cons.mpr ⟨am_c226, List.forall_mem_cons.mpr ⟨am_c227, fun _ h => absurd h List.not_mem_nil⟩⟩⟩⟩⟩⟩⟩⟩⟩⟩⟩⟩
theorem am_CW_19 : ∀ e ∈ am_MP_19, lw_tbl[e.2.1]? = some (.code e.1.1 e.1.2.1 e.1.2.2.1 e.1.2.2.2.1) := List.forall_mem_cons.mpr ⟨am_c228, List.forall_mem_cons.mpr ⟨am_c229, List.forall_mem_cons.mpr ⟨am_c230, List.forall_mem_cons.mpr ⟨am_c231, List.forall_mem_cons.mpr ⟨am_c232, List.forall_mem_cons.mpr ⟨am_c233, List.forall_mem_cons.mpr ⟨am_c234, List.forall_mem_cons.mpr ⟨am_c235, List.forall_mem_cons.mpr ⟨am_c236, List.forall_mem_cons.mpr ⟨am_c237, List.forall_mem_cons.mpr ⟨am_c238, List.forall_mem_cons.mpr ⟨am_c239, fun _ h => absurd h List.not_mem_nil⟩⟩⟩⟩⟩⟩⟩⟩⟩⟩⟩⟩
theorem am_CW_20 : ∀ e ∈ am_MP_20, lw_tbl[e.2.1]? = some (.code e.1.1 e.1.2.1 e.1.2.2.1 e.1.2.2.2.1) := List.forall_mem_cons.mpr ⟨am_c240, List.forall_mem_cons.mpr ⟨am_c241, List.forall_mem_cons.mpr ⟨am_c242, List.forall_mem_cons.mpr ⟨am_c243, List.forall_mem_cons.mpr ⟨am_c244, List.forall_mem_cons.mpr ⟨am_c245, List.forall_mem_cons.mpr ⟨am_c246, List.forall_mem_cons.mpr ⟨am_c247, List.forall_mem_cons.mpr ⟨am_c248, List.forall_mem_cons.mpr ⟨am_c249, List.forall_mem_cons.mpr ⟨am_c250, List.forall_mem_cons.mpr ⟨am_c251, fun _ h => absurd h List.not_mem_nil⟩⟩⟩⟩⟩⟩⟩⟩⟩⟩⟩⟩
theorem am_CW_21 : ∀ e ∈ am_MP_21, lw_tbl[e.2.1]? = some (.code e.1.1 e.1.2.1 e.1.2.2.1 e.1.2.2.2.1) := List.forall_mem_cons.mpr ⟨am_c252, List.forall_mem_cons.mpr ⟨am_c253, List.forall_mem_cons.mpr ⟨am_c254, List.forall_mem_cons.mpr ⟨am_c255, List.forall_mem_cons.mpr ⟨am_c256, List.forall_mem_cons.mpr ⟨am_c257, List.forall_mem_cons.mpr ⟨am_c258, List.forall_mem_cons.mpr ⟨am_c259, List.forall_mem_cons.mpr ⟨am_c260, List.forall_mem_cons.mpr ⟨am_c261, List.forall_mem_cons.mpr ⟨am_c262, List.forall_mem_cons.mpr ⟨am_c263, fun _ h => absurd h List.not_mem_nil⟩⟩⟩⟩⟩⟩⟩⟩⟩⟩⟩⟩
theorem am_CW_22 : ∀ e ∈ am_MP_22, lw_tbl[e.2.1]? = some (.code e.1.1 e.1.2.1 e.1.2.2.1 e.1.2.2.2.1) := List.forall_mem_cons.mpr ⟨am_c264, List.forall_mem_cons.mpr ⟨am_c265, List.forall_mem_cons.mpr ⟨am_c266, List.forall_mem_cons.mpr ⟨am_c267, List.forall_mem_cons.mpr ⟨am_c268, List.forall_mem_cons.mpr ⟨am_c269, List.forall_mem_cons.mpr ⟨am_c270, List.forall_mem_cons.mpr ⟨am_c271, List.forall_mem_cons.mpr ⟨am_c272, List.forall_mem_cons.mpr ⟨am_c273, List.forall_mem_cons.mpr ⟨am_c274, List.forall_mem_cons.mpr ⟨am_c275, fun _ h => absurd h List.not_mem_nil⟩⟩⟩⟩⟩⟩⟩⟩⟩⟩⟩⟩
theorem am_CW_23 : ∀ e ∈ am_MP_23, lw_tbl[e.2.1]? = some (.code e.1.1 e.1.2.1 e.1.2.2.1 e.1.2.2.2.1) := List.forall_mem_cons.mpr ⟨am_c276, List.forall_mem_cons.mpr ⟨am_c277, fun _ h => absurd h List.not_mem_nil⟩⟩
theorem am_CW : ∀ e ∈ am_MP, lw_tbl[e.2.1]? = some (.code e.1.1 e.1.2.1 e.1.2.2.1 e.1.2.2.2.1) := fun r h => ((List.mem_append.mp h).elim (fun h => am_CW_0 r h) (fun h => ((List.mem_append.mp h).elim (fun h => am_CW_1 r h) (fun h => ((List.mem_append.mp h).elim (fun h => am_CW_2 r h) (fun h => ((List.mem_append.mp h).elim (fun h => am_CW_3 r h) (fun h => ((List.mem_append.mp h).elim (fun h => am_CW_4 r h) (fun h => ((List.mem_append.mp h).elim (fun h => am_CW_5 r h) (fun h => ((List.mem_append.mp h).elim (fun h => am_CW_6 r h) (fun h => ((List.mem_append.mp h).elim (fun h => am_CW_7 r h) (fun h => ((List.mem_append.mp h).elim (fun h => am_CW_8 r h) (fun h => ((List.mem_append.mp h).elim (fun h => am_CW_9 r h) (fun h => ((List.mem_append.mp h).elim (fun h => am_CW_10 r h) (fun h => ((List.mem_append.mp h).elim (fun h => am_CW_11 r h) (fun h => ((List.mem_append.mp h).elim (fun h => am_CW_12 r h) (fun h => ((List.mem_append.mp h).elim (fun h => am_CW_13 r h) (fun h => ((List.mem_append.mp h).elim (fun h => am_CW_14 r h) (fun h => ((List.mem_append.mp h).elim (fun h => am_CW_15 r h) (fun h => ((List.mem_append.mp h).elim (fun h => am_CW_16 r h) (fun h => ((List.mem_append.mp h).elim (fun h => am_CW_17 r h) (fun h => ((List.mem_append.mp h).elim (fun h => am_CW_18 r h) (fun h => ((List.mem_append.mp h).elim (fun h => am_CW_19 r h) (fun h => ((List.mem_append.mp h).elim (fun h => am_CW_20 r h) (fun h => ((List.mem_append.mp h).elim (fun h => am_CW_21 r h) (fun h => ((List.mem_append.mp h).elim (fun h => am_CW_22 r h) (fun h => (am_CW_23 r h)))))))))))))))))))))))))))))))))))))))))))))))
