/-! WHAT A PROGRAM CHECKS, once: the tables against the words, the code against the bytes -/
def lwAt (i : Nat) (w : Cond) : Bool := decide (lw_tbl[i]? = some w)
theorem lwAt_mem {i : Nat} {w : Cond} (h : lwAt i w = true) : w ∈ lw_tbl := List.mem_of_getElem? (of_decide_eq_true h)
def clT (c : Nat) : u_T := (cls.getD c (RL, TX0, 0)).2.1
def clN (c : Nat) : Nat := (cls.getD c (RL, TX0, 0)).2.2
def fkc (q : Nat × Nat × Nat × Nat × Nat) : Bool := lwAt q.2.2.2.2 (.fieldLink (nmC q.1) q.2.1 (clT q.2.2.1 q.2.2.2.1).1 (clT q.2.2.1 q.2.2.2.1).2.1 (clT q.2.2.1 q.2.2.2.1).2.2.1) && decide (q.2.2.1 < 13 ∧ q.2.2.2.1 < clN q.2.2.1)
def mkc (q : Nat × Nat × Nat × Nat × Nat) : Bool := match q.2.2.1 with
  | 0 => lwAt q.2.2.2.2 (.methodLink (nmC q.1) q.2.1 Lib.Math.max.name)
  | 1 => lwAt q.2.2.2.2 (.methodLink (nmC q.1) q.2.1 arraycopyName)
  | 2 => lwAt q.2.2.2.2 (.methodLink (nmC q.1) q.2.1 Lib.objectInit)
  | 3 => lwAt q.2.2.2.2 (.methodLink (nmC q.1) q.2.1 (mY q.2.2.2.1)) && decide (q.2.2.2.1 < 164 ∧ mZ q.2.2.2.1 = 0)
  | 4 => lwAt q.2.2.2.2 (.methodLink (nmC q.1) q.2.1 (mY q.2.2.2.1)) && decide (q.2.2.2.1 < 164 ∧ mZ q.2.2.2.1 = 2 ∧ mI q.2.2.2.1 = q.1)
  | 5 => lwAt q.2.2.2.2 (.methodLinkNest (nmC q.1) q.2.1 (mY q.2.2.2.1) RX11) && decide (q.2.2.2.1 < 164 ∧ mZ q.2.2.2.1 = 2)
  | 6 => lwAt q.2.2.2.2 (.methodLink (nmC q.1) q.2.1 (mY q.2.2.2.1)) && decide (q.2.2.2.1 < 164 ∧ mZ q.2.2.2.1 = 1)
  | 7 => lwAt q.2.2.2.2 (.methodLinkNest (nmC q.1) q.2.1 (mY q.2.2.2.1) RX11) && decide (q.2.2.2.1 < 164 ∧ mZ q.2.2.2.1 = 1)
  | _ => false
def ckc (q : Nat × Nat × Nat × Nat × Nat) : Bool := lwAt q.2.2.2.1 (.classLink (nmC q.1) q.2.1 (nmC q.2.2.1)) && lwAt q.2.2.2.2 (.instantiable (nmC q.2.2.1) (clN q.2.2.1)) && decide (q.2.2.1 < 13 ∧ (bl q.2.2.1).length = clN q.2.2.1)
def kkc (q : Nat × Nat × Int × Nat) : Bool := lwAt q.2.2.2 (.constantLong (nmC q.1) q.2.1 (Int64.ofInt q.2.2.1)) && decide (iR q.2.2.1)
def mwc (k : Nat) : Bool :=
  (if mZ k = 2 then lwAt (MW.getD k (0, 0, 0)).2.1 (.static (mY k)) else lwAt (MW.getD k (0, 0, 0)).2.1 (.instanceMethod (mY k))) &&
  (if mZ k = 0 then lwAt (MW.getD k (0, 0, 0)).2.2 (.selects (nmC (mI k)) (mY k) (mY k)) else true) &&
  decide ((mY k).cls = nmC (mI k)) && decide (mI k < 13) && plainName (mY k).cls && decide ((mY k).cls ≠ "java/lang/invoke/MethodHandle" ∧ (mY k).cls ≠ "java/lang/invoke/VarHandle") &&
  decide ((parseMethodDescriptor (mY k).desc).map (fun d => d.parameters.length) = some (mN k - (if mZ k = 2 then 0 else 1))) &&
  decide (mZ k = 1 → (mY k).name = "<init>" ∧ mR k = 0) && decide (mR k ≤ 2) && decide (mZ k ≠ 2 → 1 ≤ mN k)
def cwc (c : Nat) : Bool := lwAt (IW.getD c 0) (.initialized (nmC c)) && (List.range (clN c)).all (fun f => lwAt ((LW.getD c []).getD f 0) (u_lay (nmC c) (clT c) f))
def tgc (pc : Nat) (t : Nat) (off : Int) : Bool := decide ((pc : Int) + off = (t : Int))
/-- an entry of the code against its instruction -/
def okI (k pc len : Nat) (e : En) : Bool := match e.1 with
  | .iconst n => len == 1 && e.2.1 == pc + 1 && decide (Int32.ofInt n = Int32.ofInt e.2.2.1 ∧ iR e.2.2.1)
  | .bipush n => len == 2 && e.2.1 == pc + 2 && decide ((Int8.ofInt n).toInt32 = Int32.ofInt e.2.2.1 ∧ iR e.2.2.1)
  | .sipush n => len == 3 && e.2.1 == pc + 3 && decide ((Int16.ofInt n).toInt32 = Int32.ofInt e.2.2.1 ∧ iR e.2.2.1)
  | .lconst n => len == 1 && e.2.1 == pc + 1 && decide (Int64.ofNat (n : Nat) = Int64.ofInt e.2.2.1 ∧ iR e.2.2.1)
  | .ldc2_w i => len == 3 && e.2.1 == pc + 3 && KK.any (fun q => q.1 == mI k && q.2.1 == i && decide (q.2.2.1 = e.2.2.1))
  | .iload i => len == 2 && e.2.1 == pc + 2 && e.2.2.2.1 == i
  | .iload_n i => len == 1 && e.2.1 == pc + 1 && e.2.2.2.1 == (i : Nat)
  | .lload i => len == 2 && e.2.1 == pc + 2 && e.2.2.2.1 == i
  | .lload_n i => len == 1 && e.2.1 == pc + 1 && e.2.2.2.1 == (i : Nat)
  | .aload i => len == 2 && e.2.1 == pc + 2 && e.2.2.2.1 == i
  | .aload_n i => len == 1 && e.2.1 == pc + 1 && e.2.2.2.1 == (i : Nat)
  | .istore i => len == 2 && e.2.1 == pc + 2 && e.2.2.2.1 == i && decide (i < mL k) && nL k
  | .istore_n i => len == 1 && e.2.1 == pc + 1 && e.2.2.2.1 == (i : Nat) && decide ((i : Nat) < mL k) && nL k
  | .iinc i n => len == 3 && e.2.1 == pc + 3 && e.2.2.2.1 == i && decide (i < mL k) && nL k && decide (Int32.ofInt n = Int32.ofInt e.2.2.1 ∧ iR e.2.2.1)
  | .goto off => len == 3 && tgc pc e.2.2.2.1 off
  | .if_icmp _ off => len == 3 && e.2.1 == pc + 3 && tgc pc e.2.2.2.1 off
  | .ifCond _ off => len == 3 && e.2.1 == pc + 3 && tgc pc e.2.2.2.1 off
  | .tableswitch d lo hi offs => tgc pc (e.2.2.2.2.2.getD 0 0) d && decide (0 ≤ lo ∧ lo ≤ hi ∧ hi < 100) && decide (offs.size = (hi - lo).toNat + 1) && (List.range ((hi - lo).toNat + 1)).all (fun j => tgc pc (e.2.2.2.2.2.getD (1 + j) 0) (offs.getD j 0))
  | .getfield i => len == 3 && e.2.1 == pc + 3 && FK.any (fun q => q.1 == mI k && q.2.1 == i && q.2.2.1 == e.2.2.2.1 && q.2.2.2.1 == e.2.2.2.2.1)
  | .putfield i => len == 3 && e.2.1 == pc + 3 && FK.any (fun q => q.1 == mI k && q.2.1 == i && q.2.2.1 == e.2.2.2.1 && q.2.2.2.1 == e.2.2.2.2.1) && (!(clT e.2.2.2.1 e.2.2.2.2.1).2.2.2 || (mZ k == 1 && decide ((clT e.2.2.2.1 e.2.2.2.2.1).1 = nmC (mI k))))
  | .new i => len == 3 && e.2.1 == pc + 3 && CK.any (fun q => q.1 == mI k && q.2.1 == i && q.2.2.1 == e.2.2.2.1)
  | .newarray t => len == 2 && e.2.1 == pc + 2 && ((decide (t = .int) && e.2.2.2.1 == 0) || (decide (t = .boolean) && e.2.2.2.1 == 1))
  | .invokevirtual i => len == 3 && e.2.1 == pc + 3 && e.2.2.2.2.1 == 3 && MK.any (fun q => q.1 == mI k && q.2.1 == i && q.2.2.1 == e.2.2.2.2.1 && q.2.2.2.1 == e.2.2.2.1) && decide (mF e.2.2.2.1 + 1 ≤ mF k ∧ 8 + (mL e.2.2.2.1 + 11) + mO e.2.2.2.1 ≤ mO k)
  | .invokestatic i => len == 3 && e.2.1 == pc + 3 && MK.any (fun q => q.1 == mI k && q.2.1 == i && q.2.2.1 == e.2.2.2.2.1 && q.2.2.2.1 == e.2.2.2.1) && (if e.2.2.2.2.1 = 0 then decide (1 ≤ mF k ∧ 21 ≤ mO k) else if e.2.2.2.2.1 = 1 then decide (1 ≤ mF k ∧ 26 ≤ mO k) else ((e.2.2.2.2.1 == 4 || e.2.2.2.2.1 == 5) && decide (mF e.2.2.2.1 + 1 ≤ mF k ∧ 8 + (mL e.2.2.2.1 + 11) + mO e.2.2.2.1 ≤ mO k)))
  | .invokespecial i => len == 3 && e.2.1 == pc + 3 && MK.any (fun q => q.1 == mI k && q.2.1 == i && q.2.2.1 == e.2.2.2.2.1 && q.2.2.2.1 == e.2.2.2.1) && (if e.2.2.2.2.1 = 2 then decide (1 ≤ mF k ∧ 12 ≤ mO k) else ((e.2.2.2.2.1 == 6 || e.2.2.2.2.1 == 7) && decide (mF e.2.2.2.1 + 1 ≤ mF k ∧ 8 + (mL e.2.2.2.1 + 11) + mO e.2.2.2.1 ≤ mO k)))
  | .return_ => len == 1
  | .ireturn => len == 1
  | _ => len == 1 && e.2.1 == pc + 1
def okE (k pc : Nat) (e : En) : Bool := match decode (mB k) pc with
  | .ok (i, len) => decide (i = e.1) && okI k pc len e
  | _ => false
def okM (k : Nat) : Bool := ((CD.getD k []).zipIdx).all (fun q => match q.1 with
  | none => true
  | some e => okE k q.2 e)
theorem fk_ok : FK.all fkc = true := by decide +kernel
theorem mk_ok : MK.all mkc = true := by decide +kernel
theorem ck_ok : CK.all ckc = true := by decide +kernel
theorem kk_ok : KK.all kkc = true := by decide +kernel
theorem cw_ok : (List.range 13).all cwc = true := by decide +kernel
theorem mw_ok1 : (List.range 60).all mwc = true := by decide +kernel
theorem mw_ok2 : ((List.range 60).map (· + 60)).all mwc = true := by decide +kernel
theorem mw_ok3 : ((List.range 44).map (· + 120)).all mwc = true := by decide +kernel
theorem jw_ok : (lwAt (JW.getD 0 0) (.static Lib.Math.max.name) && lwAt (JW.getD 1 0) (.initialized "java/lang/Math") && lwAt (JW.getD 2 0) (.code Lib.Math.max.name Lib.Math.max.code 2 (some .int)) && lwAt (JW.getD 3 0) (.native arraycopyName) && lwAt (JW.getD 4 0) (.static arraycopyName) && lwAt (JW.getD 5 0) (.initialized "java/lang/System") && lwAt (JW.getD 6 0) (.instanceMethod Lib.objectInit) && lwAt (JW.getD 7 0) (.code Lib.objectInit ⟨#[0xb1]⟩ 1 none) && lwAt (JW.getD 8 0) (.arrayClass .int) && lwAt (JW.getD 9 0) (.arrayClass .boolean)) = true := by decide +kernel
theorem cdl_ok : CD.length = 164 := by decide +kernel
theorem mtl_ok : MT.length = 164 := by decide +kernel
set_option maxRecDepth 100000 in
theorem kw_0 : Cond.code (mY 0) (mB 0) (mL 0) (rT (mR 0)) ∈ lw_tbl := List.mem_of_getElem? (i := 212) rfl
set_option maxRecDepth 100000 in
theorem kw_1 : Cond.code (mY 1) (mB 1) (mL 1) (rT (mR 1)) ∈ lw_tbl := List.mem_of_getElem? (i := 619) rfl
set_option maxRecDepth 100000 in
theorem kw_2 : Cond.code (mY 2) (mB 2) (mL 2) (rT (mR 2)) ∈ lw_tbl := List.mem_of_getElem? (i := 480) rfl
set_option maxRecDepth 100000 in
theorem kw_3 : Cond.code (mY 3) (mB 3) (mL 3) (rT (mR 3)) ∈ lw_tbl := List.mem_of_getElem? (i := 586) rfl
set_option maxRecDepth 100000 in
theorem kw_4 : Cond.code (mY 4) (mB 4) (mL 4) (rT (mR 4)) ∈ lw_tbl := List.mem_of_getElem? (i := 590) rfl
set_option maxRecDepth 100000 in
theorem kw_5 : Cond.code (mY 5) (mB 5) (mL 5) (rT (mR 5)) ∈ lw_tbl := List.mem_of_getElem? (i := 623) rfl
set_option maxRecDepth 100000 in
theorem kw_6 : Cond.code (mY 6) (mB 6) (mL 6) (rT (mR 6)) ∈ lw_tbl := List.mem_of_getElem? (i := 157) rfl
set_option maxRecDepth 100000 in
theorem kw_7 : Cond.code (mY 7) (mB 7) (mL 7) (rT (mR 7)) ∈ lw_tbl := List.mem_of_getElem? (i := 537) rfl
set_option maxRecDepth 100000 in
theorem kw_8 : Cond.code (mY 8) (mB 8) (mL 8) (rT (mR 8)) ∈ lw_tbl := List.mem_of_getElem? (i := 464) rfl
set_option maxRecDepth 100000 in
theorem kw_9 : Cond.code (mY 9) (mB 9) (mL 9) (rT (mR 9)) ∈ lw_tbl := List.mem_of_getElem? (i := 467) rfl
set_option maxRecDepth 100000 in
theorem kw_10 : Cond.code (mY 10) (mB 10) (mL 10) (rT (mR 10)) ∈ lw_tbl := List.mem_of_getElem? (i := 144) rfl
set_option maxRecDepth 100000 in
theorem kw_11 : Cond.code (mY 11) (mB 11) (mL 11) (rT (mR 11)) ∈ lw_tbl := List.mem_of_getElem? (i := 459) rfl
set_option maxRecDepth 100000 in
theorem kw_12 : Cond.code (mY 12) (mB 12) (mL 12) (rT (mR 12)) ∈ lw_tbl := List.mem_of_getElem? (i := 529) rfl
set_option maxRecDepth 100000 in
theorem kw_13 : Cond.code (mY 13) (mB 13) (mL 13) (rT (mR 13)) ∈ lw_tbl := List.mem_of_getElem? (i := 432) rfl
set_option maxRecDepth 100000 in
theorem kw_14 : Cond.code (mY 14) (mB 14) (mL 14) (rT (mR 14)) ∈ lw_tbl := List.mem_of_getElem? (i := 437) rfl
set_option maxRecDepth 100000 in
theorem kw_15 : Cond.code (mY 15) (mB 15) (mL 15) (rT (mR 15)) ∈ lw_tbl := List.mem_of_getElem? (i := 442) rfl
set_option maxRecDepth 100000 in
theorem kw_16 : Cond.code (mY 16) (mB 16) (mL 16) (rT (mR 16)) ∈ lw_tbl := List.mem_of_getElem? (i := 455) rfl
set_option maxRecDepth 100000 in
theorem kw_17 : Cond.code (mY 17) (mB 17) (mL 17) (rT (mR 17)) ∈ lw_tbl := List.mem_of_getElem? (i := 119) rfl
set_option maxRecDepth 100000 in
theorem kw_18 : Cond.code (mY 18) (mB 18) (mL 18) (rT (mR 18)) ∈ lw_tbl := List.mem_of_getElem? (i := 515) rfl
set_option maxRecDepth 100000 in
theorem kw_19 : Cond.code (mY 19) (mB 19) (mL 19) (rT (mR 19)) ∈ lw_tbl := List.mem_of_getElem? (i := 451) rfl
set_option maxRecDepth 100000 in
theorem kw_20 : Cond.code (mY 20) (mB 20) (mL 20) (rT (mR 20)) ∈ lw_tbl := List.mem_of_getElem? (i := 447) rfl
set_option maxRecDepth 100000 in
theorem kw_21 : Cond.code (mY 21) (mB 21) (mL 21) (rT (mR 21)) ∈ lw_tbl := List.mem_of_getElem? (i := 673) rfl
set_option maxRecDepth 100000 in
theorem kw_22 : Cond.code (mY 22) (mB 22) (mL 22) (rT (mR 22)) ∈ lw_tbl := List.mem_of_getElem? (i := 381) rfl
set_option maxRecDepth 100000 in
theorem kw_23 : Cond.code (mY 23) (mB 23) (mL 23) (rT (mR 23)) ∈ lw_tbl := List.mem_of_getElem? (i := 385) rfl
set_option maxRecDepth 100000 in
theorem kw_24 : Cond.code (mY 24) (mB 24) (mL 24) (rT (mR 24)) ∈ lw_tbl := List.mem_of_getElem? (i := 394) rfl
set_option maxRecDepth 100000 in
theorem kw_25 : Cond.code (mY 25) (mB 25) (mL 25) (rT (mR 25)) ∈ lw_tbl := List.mem_of_getElem? (i := 410) rfl
set_option maxRecDepth 100000 in
theorem kw_26 : Cond.code (mY 26) (mB 26) (mL 26) (rT (mR 26)) ∈ lw_tbl := List.mem_of_getElem? (i := 417) rfl
set_option maxRecDepth 100000 in
theorem kw_27 : Cond.code (mY 27) (mB 27) (mL 27) (rT (mR 27)) ∈ lw_tbl := List.mem_of_getElem? (i := 421) rfl
set_option maxRecDepth 100000 in
theorem kw_28 : Cond.code (mY 28) (mB 28) (mL 28) (rT (mR 28)) ∈ lw_tbl := List.mem_of_getElem? (i := 425) rfl
set_option maxRecDepth 100000 in
theorem kw_29 : Cond.code (mY 29) (mB 29) (mL 29) (rT (mR 29)) ∈ lw_tbl := List.mem_of_getElem? (i := 113) rfl
set_option maxRecDepth 100000 in
theorem kw_30 : Cond.code (mY 30) (mB 30) (mL 30) (rT (mR 30)) ∈ lw_tbl := List.mem_of_getElem? (i := 377) rfl
set_option maxRecDepth 100000 in
theorem kw_31 : Cond.code (mY 31) (mB 31) (mL 31) (rT (mR 31)) ∈ lw_tbl := List.mem_of_getElem? (i := 558) rfl
set_option maxRecDepth 100000 in
theorem kw_32 : Cond.code (mY 32) (mB 32) (mL 32) (rT (mR 32)) ∈ lw_tbl := List.mem_of_getElem? (i := 669) rfl
set_option maxRecDepth 100000 in
theorem kw_33 : Cond.code (mY 33) (mB 33) (mL 33) (rT (mR 33)) ∈ lw_tbl := List.mem_of_getElem? (i := 511) rfl
set_option maxRecDepth 100000 in
theorem kw_34 : Cond.code (mY 34) (mB 34) (mL 34) (rT (mR 34)) ∈ lw_tbl := List.mem_of_getElem? (i := 519) rfl
set_option maxRecDepth 100000 in
theorem kw_35 : Cond.code (mY 35) (mB 35) (mL 35) (rT (mR 35)) ∈ lw_tbl := List.mem_of_getElem? (i := 84) rfl
set_option maxRecDepth 100000 in
theorem kw_36 : Cond.code (mY 36) (mB 36) (mL 36) (rT (mR 36)) ∈ lw_tbl := List.mem_of_getElem? (i := 305) rfl
set_option maxRecDepth 100000 in
theorem kw_37 : Cond.code (mY 37) (mB 37) (mL 37) (rT (mR 37)) ∈ lw_tbl := List.mem_of_getElem? (i := 313) rfl
set_option maxRecDepth 100000 in
theorem kw_38 : Cond.code (mY 38) (mB 38) (mL 38) (rT (mR 38)) ∈ lw_tbl := List.mem_of_getElem? (i := 326) rfl
set_option maxRecDepth 100000 in
theorem kw_39 : Cond.code (mY 39) (mB 39) (mL 39) (rT (mR 39)) ∈ lw_tbl := List.mem_of_getElem? (i := 330) rfl
set_option maxRecDepth 100000 in
theorem kw_40 : Cond.code (mY 40) (mB 40) (mL 40) (rT (mR 40)) ∈ lw_tbl := List.mem_of_getElem? (i := 338) rfl
set_option maxRecDepth 100000 in
theorem kw_41 : Cond.code (mY 41) (mB 41) (mL 41) (rT (mR 41)) ∈ lw_tbl := List.mem_of_getElem? (i := 342) rfl
set_option maxRecDepth 100000 in
theorem kw_42 : Cond.code (mY 42) (mB 42) (mL 42) (rT (mR 42)) ∈ lw_tbl := List.mem_of_getElem? (i := 94) rfl
set_option maxRecDepth 100000 in
theorem kw_43 : Cond.code (mY 43) (mB 43) (mL 43) (rT (mR 43)) ∈ lw_tbl := List.mem_of_getElem? (i := 496) rfl
set_option maxRecDepth 100000 in
theorem kw_44 : Cond.code (mY 44) (mB 44) (mL 44) (rT (mR 44)) ∈ lw_tbl := List.mem_of_getElem? (i := 366) rfl
set_option maxRecDepth 100000 in
theorem kw_45 : Cond.code (mY 45) (mB 45) (mL 45) (rT (mR 45)) ∈ lw_tbl := List.mem_of_getElem? (i := 406) rfl
set_option maxRecDepth 100000 in
theorem kw_46 : Cond.code (mY 46) (mB 46) (mL 46) (rT (mR 46)) ∈ lw_tbl := List.mem_of_getElem? (i := 398) rfl
set_option maxRecDepth 100000 in
theorem kw_47 : Cond.code (mY 47) (mB 47) (mL 47) (rT (mR 47)) ∈ lw_tbl := List.mem_of_getElem? (i := 390) rfl
set_option maxRecDepth 100000 in
theorem kw_48 : Cond.code (mY 48) (mB 48) (mL 48) (rT (mR 48)) ∈ lw_tbl := List.mem_of_getElem? (i := 402) rfl
set_option maxRecDepth 100000 in
theorem kw_49 : Cond.code (mY 49) (mB 49) (mL 49) (rT (mR 49)) ∈ lw_tbl := List.mem_of_getElem? (i := 722) rfl
set_option maxRecDepth 100000 in
theorem kw_50 : Cond.code (mY 50) (mB 50) (mL 50) (rT (mR 50)) ∈ lw_tbl := List.mem_of_getElem? (i := 309) rfl
set_option maxRecDepth 100000 in
theorem kw_51 : Cond.code (mY 51) (mB 51) (mL 51) (rT (mR 51)) ∈ lw_tbl := List.mem_of_getElem? (i := 334) rfl
set_option maxRecDepth 100000 in
theorem kw_52 : Cond.code (mY 52) (mB 52) (mL 52) (rT (mR 52)) ∈ lw_tbl := List.mem_of_getElem? (i := 362) rfl
set_option maxRecDepth 100000 in
theorem kw_53 : Cond.code (mY 53) (mB 53) (mL 53) (rT (mR 53)) ∈ lw_tbl := List.mem_of_getElem? (i := 350) rfl
set_option maxRecDepth 100000 in
theorem kw_54 : Cond.code (mY 54) (mB 54) (mL 54) (rT (mR 54)) ∈ lw_tbl := List.mem_of_getElem? (i := 346) rfl
set_option maxRecDepth 100000 in
theorem kw_55 : Cond.code (mY 55) (mB 55) (mL 55) (rT (mR 55)) ∈ lw_tbl := List.mem_of_getElem? (i := 370) rfl
set_option maxRecDepth 100000 in
theorem kw_56 : Cond.code (mY 56) (mB 56) (mL 56) (rT (mR 56)) ∈ lw_tbl := List.mem_of_getElem? (i := 180) rfl
set_option maxRecDepth 100000 in
theorem kw_57 : Cond.code (mY 57) (mB 57) (mL 57) (rT (mR 57)) ∈ lw_tbl := List.mem_of_getElem? (i := 476) rfl
set_option maxRecDepth 100000 in
theorem kw_58 : Cond.code (mY 58) (mB 58) (mL 58) (rT (mR 58)) ∈ lw_tbl := List.mem_of_getElem? (i := 582) rfl
set_option maxRecDepth 100000 in
theorem kw_59 : Cond.code (mY 59) (mB 59) (mL 59) (rT (mR 59)) ∈ lw_tbl := List.mem_of_getElem? (i := 627) rfl
set_option maxRecDepth 100000 in
theorem kw_60 : Cond.code (mY 60) (mB 60) (mL 60) (rT (mR 60)) ∈ lw_tbl := List.mem_of_getElem? (i := 578) rfl
set_option maxRecDepth 100000 in
theorem kw_61 : Cond.code (mY 61) (mB 61) (mL 61) (rT (mR 61)) ∈ lw_tbl := List.mem_of_getElem? (i := 594) rfl
set_option maxRecDepth 100000 in
theorem kw_62 : Cond.code (mY 62) (mB 62) (mL 62) (rT (mR 62)) ∈ lw_tbl := List.mem_of_getElem? (i := 525) rfl
set_option maxRecDepth 100000 in
theorem kw_63 : Cond.code (mY 63) (mB 63) (mL 63) (rT (mR 63)) ∈ lw_tbl := List.mem_of_getElem? (i := 714) rfl
set_option maxRecDepth 100000 in
theorem kw_64 : Cond.code (mY 64) (mB 64) (mL 64) (rT (mR 64)) ∈ lw_tbl := List.mem_of_getElem? (i := 533) rfl
set_option maxRecDepth 100000 in
theorem kw_65 : Cond.code (mY 65) (mB 65) (mL 65) (rT (mR 65)) ∈ lw_tbl := List.mem_of_getElem? (i := 602) rfl
set_option maxRecDepth 100000 in
theorem kw_66 : Cond.code (mY 66) (mB 66) (mL 66) (rT (mR 66)) ∈ lw_tbl := List.mem_of_getElem? (i := 718) rfl
set_option maxRecDepth 100000 in
theorem kw_67 : Cond.code (mY 67) (mB 67) (mL 67) (rT (mR 67)) ∈ lw_tbl := List.mem_of_getElem? (i := 507) rfl
set_option maxRecDepth 100000 in
theorem kw_68 : Cond.code (mY 68) (mB 68) (mL 68) (rT (mR 68)) ∈ lw_tbl := List.mem_of_getElem? (i := 610) rfl
set_option maxRecDepth 100000 in
theorem kw_69 : Cond.code (mY 69) (mB 69) (mL 69) (rT (mR 69)) ∈ lw_tbl := List.mem_of_getElem? (i := 225) rfl
set_option maxRecDepth 100000 in
theorem kw_70 : Cond.code (mY 70) (mB 70) (mL 70) (rT (mR 70)) ∈ lw_tbl := List.mem_of_getElem? (i := 681) rfl
set_option maxRecDepth 100000 in
theorem kw_71 : Cond.code (mY 71) (mB 71) (mL 71) (rT (mR 71)) ∈ lw_tbl := List.mem_of_getElem? (i := 484) rfl
set_option maxRecDepth 100000 in
theorem kw_72 : Cond.code (mY 72) (mB 72) (mL 72) (rT (mR 72)) ∈ lw_tbl := List.mem_of_getElem? (i := 685) rfl
set_option maxRecDepth 100000 in
theorem kw_73 : Cond.code (mY 73) (mB 73) (mL 73) (rT (mR 73)) ∈ lw_tbl := List.mem_of_getElem? (i := 697) rfl
set_option maxRecDepth 100000 in
theorem kw_74 : Cond.code (mY 74) (mB 74) (mL 74) (rT (mR 74)) ∈ lw_tbl := List.mem_of_getElem? (i := 70) rfl
set_option maxRecDepth 100000 in
theorem kw_75 : Cond.code (mY 75) (mB 75) (mL 75) (rT (mR 75)) ∈ lw_tbl := List.mem_of_getElem? (i := 285) rfl
set_option maxRecDepth 100000 in
theorem kw_76 : Cond.code (mY 76) (mB 76) (mL 76) (rT (mR 76)) ∈ lw_tbl := List.mem_of_getElem? (i := 289) rfl
set_option maxRecDepth 100000 in
theorem kw_77 : Cond.code (mY 77) (mB 77) (mL 77) (rT (mR 77)) ∈ lw_tbl := List.mem_of_getElem? (i := 297) rfl
set_option maxRecDepth 100000 in
theorem kw_78 : Cond.code (mY 78) (mB 78) (mL 78) (rT (mR 78)) ∈ lw_tbl := List.mem_of_getElem? (i := 317) rfl
set_option maxRecDepth 100000 in
theorem kw_79 : Cond.code (mY 79) (mB 79) (mL 79) (rT (mR 79)) ∈ lw_tbl := List.mem_of_getElem? (i := 321) rfl
set_option maxRecDepth 100000 in
theorem kw_80 : Cond.code (mY 80) (mB 80) (mL 80) (rT (mR 80)) ∈ lw_tbl := List.mem_of_getElem? (i := 357) rfl
set_option maxRecDepth 100000 in
theorem kw_81 : Cond.code (mY 81) (mB 81) (mL 81) (rT (mR 81)) ∈ lw_tbl := List.mem_of_getElem? (i := 196) rfl
set_option maxRecDepth 100000 in
theorem kw_82 : Cond.code (mY 82) (mB 82) (mL 82) (rT (mR 82)) ∈ lw_tbl := List.mem_of_getElem? (i := 566) rfl
set_option maxRecDepth 100000 in
theorem kw_83 : Cond.code (mY 83) (mB 83) (mL 83) (rT (mR 83)) ∈ lw_tbl := List.mem_of_getElem? (i := 570) rfl
set_option maxRecDepth 100000 in
theorem kw_84 : Cond.code (mY 84) (mB 84) (mL 84) (rT (mR 84)) ∈ lw_tbl := List.mem_of_getElem? (i := 562) rfl
set_option maxRecDepth 100000 in
theorem kw_85 : Cond.code (mY 85) (mB 85) (mL 85) (rT (mR 85)) ∈ lw_tbl := List.mem_of_getElem? (i := 492) rfl
set_option maxRecDepth 100000 in
theorem kw_86 : Cond.code (mY 86) (mB 86) (mL 86) (rT (mR 86)) ∈ lw_tbl := List.mem_of_getElem? (i := 502) rfl
set_option maxRecDepth 100000 in
theorem kw_87 : Cond.code (mY 87) (mB 87) (mL 87) (rT (mR 87)) ∈ lw_tbl := List.mem_of_getElem? (i := 62) rfl
set_option maxRecDepth 100000 in
theorem kw_88 : Cond.code (mY 88) (mB 88) (mL 88) (rT (mR 88)) ∈ lw_tbl := List.mem_of_getElem? (i := 281) rfl
set_option maxRecDepth 100000 in
theorem kw_89 : Cond.code (mY 89) (mB 89) (mL 89) (rT (mR 89)) ∈ lw_tbl := List.mem_of_getElem? (i := 293) rfl
set_option maxRecDepth 100000 in
theorem kw_90 : Cond.code (mY 90) (mB 90) (mL 90) (rT (mR 90)) ∈ lw_tbl := List.mem_of_getElem? (i := 301) rfl
set_option maxRecDepth 100000 in
theorem kw_91 : Cond.code (mY 91) (mB 91) (mL 91) (rT (mR 91)) ∈ lw_tbl := List.mem_of_getElem? (i := 544) rfl
set_option maxRecDepth 100000 in
theorem kw_92 : Cond.code (mY 92) (mB 92) (mL 92) (rT (mR 92)) ∈ lw_tbl := List.mem_of_getElem? (i := 552) rfl
set_option maxRecDepth 100000 in
theorem kw_93 : Cond.code (mY 93) (mB 93) (mL 93) (rT (mR 93)) ∈ lw_tbl := List.mem_of_getElem? (i := 574) rfl
set_option maxRecDepth 100000 in
theorem kw_94 : Cond.code (mY 94) (mB 94) (mL 94) (rT (mR 94)) ∈ lw_tbl := List.mem_of_getElem? (i := 598) rfl
set_option maxRecDepth 100000 in
theorem kw_95 : Cond.code (mY 95) (mB 95) (mL 95) (rT (mR 95)) ∈ lw_tbl := List.mem_of_getElem? (i := 606) rfl
set_option maxRecDepth 100000 in
theorem kw_96 : Cond.code (mY 96) (mB 96) (mL 96) (rT (mR 96)) ∈ lw_tbl := List.mem_of_getElem? (i := 615) rfl
set_option maxRecDepth 100000 in
theorem kw_97 : Cond.code (mY 97) (mB 97) (mL 97) (rT (mR 97)) ∈ lw_tbl := List.mem_of_getElem? (i := 631) rfl
set_option maxRecDepth 100000 in
theorem kw_98 : Cond.code (mY 98) (mB 98) (mL 98) (rT (mR 98)) ∈ lw_tbl := List.mem_of_getElem? (i := 636) rfl
set_option maxRecDepth 100000 in
theorem kw_99 : Cond.code (mY 99) (mB 99) (mL 99) (rT (mR 99)) ∈ lw_tbl := List.mem_of_getElem? (i := 640) rfl
set_option maxRecDepth 100000 in
theorem kw_100 : Cond.code (mY 100) (mB 100) (mL 100) (rT (mR 100)) ∈ lw_tbl := List.mem_of_getElem? (i := 648) rfl
set_option maxRecDepth 100000 in
theorem kw_101 : Cond.code (mY 101) (mB 101) (mL 101) (rT (mR 101)) ∈ lw_tbl := List.mem_of_getElem? (i := 656) rfl
set_option maxRecDepth 100000 in
theorem kw_102 : Cond.code (mY 102) (mB 102) (mL 102) (rT (mR 102)) ∈ lw_tbl := List.mem_of_getElem? (i := 661) rfl
set_option maxRecDepth 100000 in
theorem kw_103 : Cond.code (mY 103) (mB 103) (mL 103) (rT (mR 103)) ∈ lw_tbl := List.mem_of_getElem? (i := 665) rfl
set_option maxRecDepth 100000 in
theorem kw_104 : Cond.code (mY 104) (mB 104) (mL 104) (rT (mR 104)) ∈ lw_tbl := List.mem_of_getElem? (i := 677) rfl
set_option maxRecDepth 100000 in
theorem kw_105 : Cond.code (mY 105) (mB 105) (mL 105) (rT (mR 105)) ∈ lw_tbl := List.mem_of_getElem? (i := 689) rfl
set_option maxRecDepth 100000 in
theorem kw_106 : Cond.code (mY 106) (mB 106) (mL 106) (rT (mR 106)) ∈ lw_tbl := List.mem_of_getElem? (i := 693) rfl
set_option maxRecDepth 100000 in
theorem kw_107 : Cond.code (mY 107) (mB 107) (mL 107) (rT (mR 107)) ∈ lw_tbl := List.mem_of_getElem? (i := 702) rfl
set_option maxRecDepth 100000 in
theorem kw_108 : Cond.code (mY 108) (mB 108) (mL 108) (rT (mR 108)) ∈ lw_tbl := List.mem_of_getElem? (i := 706) rfl
set_option maxRecDepth 100000 in
theorem kw_109 : Cond.code (mY 109) (mB 109) (mL 109) (rT (mR 109)) ∈ lw_tbl := List.mem_of_getElem? (i := 710) rfl
set_option maxRecDepth 100000 in
theorem kw_110 : Cond.code (mY 110) (mB 110) (mL 110) (rT (mR 110)) ∈ lw_tbl := List.mem_of_getElem? (i := 488) rfl
set_option maxRecDepth 100000 in
theorem kw_111 : Cond.code (mY 111) (mB 111) (mL 111) (rT (mR 111)) ∈ lw_tbl := List.mem_of_getElem? (i := 652) rfl
set_option maxRecDepth 100000 in
theorem kw_112 : Cond.code (mY 112) (mB 112) (mL 112) (rT (mR 112)) ∈ lw_tbl := List.mem_of_getElem? (i := 644) rfl
set_option maxRecDepth 100000 in
theorem kw_113 : Cond.code (mY 113) (mB 113) (mL 113) (rT (mR 113)) ∈ lw_tbl := List.mem_of_getElem? (i := 726) rfl
set_option maxRecDepth 100000 in
theorem kw_114 : Cond.code (mY 114) (mB 114) (mL 114) (rT (mR 114)) ∈ lw_tbl := List.mem_of_getElem? (i := 353) rfl
set_option maxRecDepth 100000 in
theorem kw_115 : Cond.code (mY 115) (mB 115) (mL 115) (rT (mR 115)) ∈ lw_tbl := List.mem_of_getElem? (i := 428) rfl
set_option maxRecDepth 100000 in
theorem kw_116 : Cond.code (mY 116) (mB 116) (mL 116) (rT (mR 116)) ∈ lw_tbl := List.mem_of_getElem? (i := 731) rfl
set_option maxRecDepth 100000 in
theorem kw_117 : Cond.code (mY 117) (mB 117) (mL 117) (rT (mR 117)) ∈ lw_tbl := List.mem_of_getElem? (i := 736) rfl
set_option maxRecDepth 100000 in
theorem kw_118 : Cond.code (mY 118) (mB 118) (mL 118) (rT (mR 118)) ∈ lw_tbl := List.mem_of_getElem? (i := 826) rfl
set_option maxRecDepth 100000 in
theorem kw_119 : Cond.code (mY 119) (mB 119) (mL 119) (rT (mR 119)) ∈ lw_tbl := List.mem_of_getElem? (i := 877) rfl
set_option maxRecDepth 100000 in
theorem kw_120 : Cond.code (mY 120) (mB 120) (mL 120) (rT (mR 120)) ∈ lw_tbl := List.mem_of_getElem? (i := 874) rfl
set_option maxRecDepth 100000 in
theorem kw_121 : Cond.code (mY 121) (mB 121) (mL 121) (rT (mR 121)) ∈ lw_tbl := List.mem_of_getElem? (i := 885) rfl
set_option maxRecDepth 100000 in
theorem kw_122 : Cond.code (mY 122) (mB 122) (mL 122) (rT (mR 122)) ∈ lw_tbl := List.mem_of_getElem? (i := 822) rfl
set_option maxRecDepth 100000 in
theorem kw_123 : Cond.code (mY 123) (mB 123) (mL 123) (rT (mR 123)) ∈ lw_tbl := List.mem_of_getElem? (i := 830) rfl
set_option maxRecDepth 100000 in
theorem kw_124 : Cond.code (mY 124) (mB 124) (mL 124) (rT (mR 124)) ∈ lw_tbl := List.mem_of_getElem? (i := 838) rfl
set_option maxRecDepth 100000 in
theorem kw_125 : Cond.code (mY 125) (mB 125) (mL 125) (rT (mR 125)) ∈ lw_tbl := List.mem_of_getElem? (i := 850) rfl
set_option maxRecDepth 100000 in
theorem kw_126 : Cond.code (mY 126) (mB 126) (mL 126) (rT (mR 126)) ∈ lw_tbl := List.mem_of_getElem? (i := 854) rfl
set_option maxRecDepth 100000 in
theorem kw_127 : Cond.code (mY 127) (mB 127) (mL 127) (rT (mR 127)) ∈ lw_tbl := List.mem_of_getElem? (i := 846) rfl
set_option maxRecDepth 100000 in
theorem kw_128 : Cond.code (mY 128) (mB 128) (mL 128) (rT (mR 128)) ∈ lw_tbl := List.mem_of_getElem? (i := 834) rfl
set_option maxRecDepth 100000 in
theorem kw_129 : Cond.code (mY 129) (mB 129) (mL 129) (rT (mR 129)) ∈ lw_tbl := List.mem_of_getElem? (i := 866) rfl
set_option maxRecDepth 100000 in
theorem kw_130 : Cond.code (mY 130) (mB 130) (mL 130) (rT (mR 130)) ∈ lw_tbl := List.mem_of_getElem? (i := 862) rfl
set_option maxRecDepth 100000 in
theorem kw_131 : Cond.code (mY 131) (mB 131) (mL 131) (rT (mR 131)) ∈ lw_tbl := List.mem_of_getElem? (i := 858) rfl
set_option maxRecDepth 100000 in
theorem kw_132 : Cond.code (mY 132) (mB 132) (mL 132) (rT (mR 132)) ∈ lw_tbl := List.mem_of_getElem? (i := 901) rfl
set_option maxRecDepth 100000 in
theorem kw_133 : Cond.code (mY 133) (mB 133) (mL 133) (rT (mR 133)) ∈ lw_tbl := List.mem_of_getElem? (i := 909) rfl
set_option maxRecDepth 100000 in
theorem kw_134 : Cond.code (mY 134) (mB 134) (mL 134) (rT (mR 134)) ∈ lw_tbl := List.mem_of_getElem? (i := 905) rfl
set_option maxRecDepth 100000 in
theorem kw_135 : Cond.code (mY 135) (mB 135) (mL 135) (rT (mR 135)) ∈ lw_tbl := List.mem_of_getElem? (i := 913) rfl
set_option maxRecDepth 100000 in
theorem kw_136 : Cond.code (mY 136) (mB 136) (mL 136) (rT (mR 136)) ∈ lw_tbl := List.mem_of_getElem? (i := 897) rfl
set_option maxRecDepth 100000 in
theorem kw_137 : Cond.code (mY 137) (mB 137) (mL 137) (rT (mR 137)) ∈ lw_tbl := List.mem_of_getElem? (i := 917) rfl
set_option maxRecDepth 100000 in
theorem kw_138 : Cond.code (mY 138) (mB 138) (mL 138) (rT (mR 138)) ∈ lw_tbl := List.mem_of_getElem? (i := 893) rfl
set_option maxRecDepth 100000 in
theorem kw_139 : Cond.code (mY 139) (mB 139) (mL 139) (rT (mR 139)) ∈ lw_tbl := List.mem_of_getElem? (i := 889) rfl
set_option maxRecDepth 100000 in
theorem kw_140 : Cond.code (mY 140) (mB 140) (mL 140) (rT (mR 140)) ∈ lw_tbl := List.mem_of_getElem? (i := 870) rfl
set_option maxRecDepth 100000 in
theorem kw_141 : Cond.code (mY 141) (mB 141) (mL 141) (rT (mR 141)) ∈ lw_tbl := List.mem_of_getElem? (i := 881) rfl
set_option maxRecDepth 100000 in
theorem kw_142 : Cond.code (mY 142) (mB 142) (mL 142) (rT (mR 142)) ∈ lw_tbl := List.mem_of_getElem? (i := 926) rfl
set_option maxRecDepth 100000 in
theorem kw_143 : Cond.code (mY 143) (mB 143) (mL 143) (rT (mR 143)) ∈ lw_tbl := List.mem_of_getElem? (i := 921) rfl
set_option maxRecDepth 100000 in
theorem kw_144 : Cond.code (mY 144) (mB 144) (mL 144) (rT (mR 144)) ∈ lw_tbl := List.mem_of_getElem? (i := 930) rfl
set_option maxRecDepth 100000 in
theorem kw_145 : Cond.code (mY 145) (mB 145) (mL 145) (rT (mR 145)) ∈ lw_tbl := List.mem_of_getElem? (i := 934) rfl
set_option maxRecDepth 100000 in
theorem kw_146 : Cond.code (mY 146) (mB 146) (mL 146) (rT (mR 146)) ∈ lw_tbl := List.mem_of_getElem? (i := 939) rfl
set_option maxRecDepth 100000 in
theorem kw_147 : Cond.code (mY 147) (mB 147) (mL 147) (rT (mR 147)) ∈ lw_tbl := List.mem_of_getElem? (i := 943) rfl
set_option maxRecDepth 100000 in
theorem kw_148 : Cond.code (mY 148) (mB 148) (mL 148) (rT (mR 148)) ∈ lw_tbl := List.mem_of_getElem? (i := 947) rfl
set_option maxRecDepth 100000 in
theorem kw_149 : Cond.code (mY 149) (mB 149) (mL 149) (rT (mR 149)) ∈ lw_tbl := List.mem_of_getElem? (i := 951) rfl
set_option maxRecDepth 100000 in
theorem kw_150 : Cond.code (mY 150) (mB 150) (mL 150) (rT (mR 150)) ∈ lw_tbl := List.mem_of_getElem? (i := 959) rfl
set_option maxRecDepth 100000 in
theorem kw_151 : Cond.code (mY 151) (mB 151) (mL 151) (rT (mR 151)) ∈ lw_tbl := List.mem_of_getElem? (i := 955) rfl
set_option maxRecDepth 100000 in
theorem kw_152 : Cond.code (mY 152) (mB 152) (mL 152) (rT (mR 152)) ∈ lw_tbl := List.mem_of_getElem? (i := 963) rfl
set_option maxRecDepth 100000 in
theorem kw_153 : Cond.code (mY 153) (mB 153) (mL 153) (rT (mR 153)) ∈ lw_tbl := List.mem_of_getElem? (i := 967) rfl
set_option maxRecDepth 100000 in
theorem kw_154 : Cond.code (mY 154) (mB 154) (mL 154) (rT (mR 154)) ∈ lw_tbl := List.mem_of_getElem? (i := 971) rfl
set_option maxRecDepth 100000 in
theorem kw_155 : Cond.code (mY 155) (mB 155) (mL 155) (rT (mR 155)) ∈ lw_tbl := List.mem_of_getElem? (i := 975) rfl
set_option maxRecDepth 100000 in
theorem kw_156 : Cond.code (mY 156) (mB 156) (mL 156) (rT (mR 156)) ∈ lw_tbl := List.mem_of_getElem? (i := 979) rfl
set_option maxRecDepth 100000 in
theorem kw_157 : Cond.code (mY 157) (mB 157) (mL 157) (rT (mR 157)) ∈ lw_tbl := List.mem_of_getElem? (i := 987) rfl
set_option maxRecDepth 100000 in
theorem kw_158 : Cond.code (mY 158) (mB 158) (mL 158) (rT (mR 158)) ∈ lw_tbl := List.mem_of_getElem? (i := 983) rfl
set_option maxRecDepth 100000 in
theorem kw_159 : Cond.code (mY 159) (mB 159) (mL 159) (rT (mR 159)) ∈ lw_tbl := List.mem_of_getElem? (i := 991) rfl
set_option maxRecDepth 100000 in
theorem kw_160 : Cond.code (mY 160) (mB 160) (mL 160) (rT (mR 160)) ∈ lw_tbl := List.mem_of_getElem? (i := 995) rfl
set_option maxRecDepth 100000 in
theorem kw_161 : Cond.code (mY 161) (mB 161) (mL 161) (rT (mR 161)) ∈ lw_tbl := List.mem_of_getElem? (i := 1003) rfl
set_option maxRecDepth 100000 in
theorem kw_162 : Cond.code (mY 162) (mB 162) (mL 162) (rT (mR 162)) ∈ lw_tbl := List.mem_of_getElem? (i := 1007) rfl
set_option maxRecDepth 100000 in
theorem kw_163 : Cond.code (mY 163) (mB 163) (mL 163) (rT (mR 163)) ∈ lw_tbl := List.mem_of_getElem? (i := 999) rfl
theorem kw_a0 : ∀ k, k < 0 → Cond.code (mY k) (mB k) (mL k) (rT (mR k)) ∈ lw_tbl := lt_0
theorem kw_a1 : ∀ k, k < 1 → Cond.code (mY k) (mB k) (mL k) (rT (mR k)) ∈ lw_tbl := lt_s kw_a0 kw_0
theorem kw_a2 : ∀ k, k < 2 → Cond.code (mY k) (mB k) (mL k) (rT (mR k)) ∈ lw_tbl := lt_s kw_a1 kw_1
theorem kw_a3 : ∀ k, k < 3 → Cond.code (mY k) (mB k) (mL k) (rT (mR k)) ∈ lw_tbl := lt_s kw_a2 kw_2
theorem kw_a4 : ∀ k, k < 4 → Cond.code (mY k) (mB k) (mL k) (rT (mR k)) ∈ lw_tbl := lt_s kw_a3 kw_3
theorem kw_a5 : ∀ k, k < 5 → Cond.code (mY k) (mB k) (mL k) (rT (mR k)) ∈ lw_tbl := lt_s kw_a4 kw_4
theorem kw_a6 : ∀ k, k < 6 → Cond.code (mY k) (mB k) (mL k) (rT (mR k)) ∈ lw_tbl := lt_s kw_a5 kw_5
theorem kw_a7 : ∀ k, k < 7 → Cond.code (mY k) (mB k) (mL k) (rT (mR k)) ∈ lw_tbl := lt_s kw_a6 kw_6
theorem kw_a8 : ∀ k, k < 8 → Cond.code (mY k) (mB k) (mL k) (rT (mR k)) ∈ lw_tbl := lt_s kw_a7 kw_7
theorem kw_a9 : ∀ k, k < 9 → Cond.code (mY k) (mB k) (mL k) (rT (mR k)) ∈ lw_tbl := lt_s kw_a8 kw_8
theorem kw_a10 : ∀ k, k < 10 → Cond.code (mY k) (mB k) (mL k) (rT (mR k)) ∈ lw_tbl := lt_s kw_a9 kw_9
theorem kw_a11 : ∀ k, k < 11 → Cond.code (mY k) (mB k) (mL k) (rT (mR k)) ∈ lw_tbl := lt_s kw_a10 kw_10
theorem kw_a12 : ∀ k, k < 12 → Cond.code (mY k) (mB k) (mL k) (rT (mR k)) ∈ lw_tbl := lt_s kw_a11 kw_11
theorem kw_a13 : ∀ k, k < 13 → Cond.code (mY k) (mB k) (mL k) (rT (mR k)) ∈ lw_tbl := lt_s kw_a12 kw_12
theorem kw_a14 : ∀ k, k < 14 → Cond.code (mY k) (mB k) (mL k) (rT (mR k)) ∈ lw_tbl := lt_s kw_a13 kw_13
theorem kw_a15 : ∀ k, k < 15 → Cond.code (mY k) (mB k) (mL k) (rT (mR k)) ∈ lw_tbl := lt_s kw_a14 kw_14
theorem kw_a16 : ∀ k, k < 16 → Cond.code (mY k) (mB k) (mL k) (rT (mR k)) ∈ lw_tbl := lt_s kw_a15 kw_15
theorem kw_a17 : ∀ k, k < 17 → Cond.code (mY k) (mB k) (mL k) (rT (mR k)) ∈ lw_tbl := lt_s kw_a16 kw_16
theorem kw_a18 : ∀ k, k < 18 → Cond.code (mY k) (mB k) (mL k) (rT (mR k)) ∈ lw_tbl := lt_s kw_a17 kw_17
theorem kw_a19 : ∀ k, k < 19 → Cond.code (mY k) (mB k) (mL k) (rT (mR k)) ∈ lw_tbl := lt_s kw_a18 kw_18
theorem kw_a20 : ∀ k, k < 20 → Cond.code (mY k) (mB k) (mL k) (rT (mR k)) ∈ lw_tbl := lt_s kw_a19 kw_19
theorem kw_a21 : ∀ k, k < 21 → Cond.code (mY k) (mB k) (mL k) (rT (mR k)) ∈ lw_tbl := lt_s kw_a20 kw_20
theorem kw_a22 : ∀ k, k < 22 → Cond.code (mY k) (mB k) (mL k) (rT (mR k)) ∈ lw_tbl := lt_s kw_a21 kw_21
theorem kw_a23 : ∀ k, k < 23 → Cond.code (mY k) (mB k) (mL k) (rT (mR k)) ∈ lw_tbl := lt_s kw_a22 kw_22
theorem kw_a24 : ∀ k, k < 24 → Cond.code (mY k) (mB k) (mL k) (rT (mR k)) ∈ lw_tbl := lt_s kw_a23 kw_23
theorem kw_a25 : ∀ k, k < 25 → Cond.code (mY k) (mB k) (mL k) (rT (mR k)) ∈ lw_tbl := lt_s kw_a24 kw_24
theorem kw_a26 : ∀ k, k < 26 → Cond.code (mY k) (mB k) (mL k) (rT (mR k)) ∈ lw_tbl := lt_s kw_a25 kw_25
theorem kw_a27 : ∀ k, k < 27 → Cond.code (mY k) (mB k) (mL k) (rT (mR k)) ∈ lw_tbl := lt_s kw_a26 kw_26
theorem kw_a28 : ∀ k, k < 28 → Cond.code (mY k) (mB k) (mL k) (rT (mR k)) ∈ lw_tbl := lt_s kw_a27 kw_27
theorem kw_a29 : ∀ k, k < 29 → Cond.code (mY k) (mB k) (mL k) (rT (mR k)) ∈ lw_tbl := lt_s kw_a28 kw_28
theorem kw_a30 : ∀ k, k < 30 → Cond.code (mY k) (mB k) (mL k) (rT (mR k)) ∈ lw_tbl := lt_s kw_a29 kw_29
theorem kw_a31 : ∀ k, k < 31 → Cond.code (mY k) (mB k) (mL k) (rT (mR k)) ∈ lw_tbl := lt_s kw_a30 kw_30
theorem kw_a32 : ∀ k, k < 32 → Cond.code (mY k) (mB k) (mL k) (rT (mR k)) ∈ lw_tbl := lt_s kw_a31 kw_31
theorem kw_a33 : ∀ k, k < 33 → Cond.code (mY k) (mB k) (mL k) (rT (mR k)) ∈ lw_tbl := lt_s kw_a32 kw_32
theorem kw_a34 : ∀ k, k < 34 → Cond.code (mY k) (mB k) (mL k) (rT (mR k)) ∈ lw_tbl := lt_s kw_a33 kw_33
theorem kw_a35 : ∀ k, k < 35 → Cond.code (mY k) (mB k) (mL k) (rT (mR k)) ∈ lw_tbl := lt_s kw_a34 kw_34
theorem kw_a36 : ∀ k, k < 36 → Cond.code (mY k) (mB k) (mL k) (rT (mR k)) ∈ lw_tbl := lt_s kw_a35 kw_35
theorem kw_a37 : ∀ k, k < 37 → Cond.code (mY k) (mB k) (mL k) (rT (mR k)) ∈ lw_tbl := lt_s kw_a36 kw_36
theorem kw_a38 : ∀ k, k < 38 → Cond.code (mY k) (mB k) (mL k) (rT (mR k)) ∈ lw_tbl := lt_s kw_a37 kw_37
theorem kw_a39 : ∀ k, k < 39 → Cond.code (mY k) (mB k) (mL k) (rT (mR k)) ∈ lw_tbl := lt_s kw_a38 kw_38
theorem kw_a40 : ∀ k, k < 40 → Cond.code (mY k) (mB k) (mL k) (rT (mR k)) ∈ lw_tbl := lt_s kw_a39 kw_39
theorem kw_a41 : ∀ k, k < 41 → Cond.code (mY k) (mB k) (mL k) (rT (mR k)) ∈ lw_tbl := lt_s kw_a40 kw_40
theorem kw_a42 : ∀ k, k < 42 → Cond.code (mY k) (mB k) (mL k) (rT (mR k)) ∈ lw_tbl := lt_s kw_a41 kw_41
theorem kw_a43 : ∀ k, k < 43 → Cond.code (mY k) (mB k) (mL k) (rT (mR k)) ∈ lw_tbl := lt_s kw_a42 kw_42
theorem kw_a44 : ∀ k, k < 44 → Cond.code (mY k) (mB k) (mL k) (rT (mR k)) ∈ lw_tbl := lt_s kw_a43 kw_43
theorem kw_a45 : ∀ k, k < 45 → Cond.code (mY k) (mB k) (mL k) (rT (mR k)) ∈ lw_tbl := lt_s kw_a44 kw_44
theorem kw_a46 : ∀ k, k < 46 → Cond.code (mY k) (mB k) (mL k) (rT (mR k)) ∈ lw_tbl := lt_s kw_a45 kw_45
theorem kw_a47 : ∀ k, k < 47 → Cond.code (mY k) (mB k) (mL k) (rT (mR k)) ∈ lw_tbl := lt_s kw_a46 kw_46
theorem kw_a48 : ∀ k, k < 48 → Cond.code (mY k) (mB k) (mL k) (rT (mR k)) ∈ lw_tbl := lt_s kw_a47 kw_47
theorem kw_a49 : ∀ k, k < 49 → Cond.code (mY k) (mB k) (mL k) (rT (mR k)) ∈ lw_tbl := lt_s kw_a48 kw_48
theorem kw_a50 : ∀ k, k < 50 → Cond.code (mY k) (mB k) (mL k) (rT (mR k)) ∈ lw_tbl := lt_s kw_a49 kw_49
theorem kw_a51 : ∀ k, k < 51 → Cond.code (mY k) (mB k) (mL k) (rT (mR k)) ∈ lw_tbl := lt_s kw_a50 kw_50
theorem kw_a52 : ∀ k, k < 52 → Cond.code (mY k) (mB k) (mL k) (rT (mR k)) ∈ lw_tbl := lt_s kw_a51 kw_51
theorem kw_a53 : ∀ k, k < 53 → Cond.code (mY k) (mB k) (mL k) (rT (mR k)) ∈ lw_tbl := lt_s kw_a52 kw_52
theorem kw_a54 : ∀ k, k < 54 → Cond.code (mY k) (mB k) (mL k) (rT (mR k)) ∈ lw_tbl := lt_s kw_a53 kw_53
theorem kw_a55 : ∀ k, k < 55 → Cond.code (mY k) (mB k) (mL k) (rT (mR k)) ∈ lw_tbl := lt_s kw_a54 kw_54
theorem kw_a56 : ∀ k, k < 56 → Cond.code (mY k) (mB k) (mL k) (rT (mR k)) ∈ lw_tbl := lt_s kw_a55 kw_55
theorem kw_a57 : ∀ k, k < 57 → Cond.code (mY k) (mB k) (mL k) (rT (mR k)) ∈ lw_tbl := lt_s kw_a56 kw_56
theorem kw_a58 : ∀ k, k < 58 → Cond.code (mY k) (mB k) (mL k) (rT (mR k)) ∈ lw_tbl := lt_s kw_a57 kw_57
theorem kw_a59 : ∀ k, k < 59 → Cond.code (mY k) (mB k) (mL k) (rT (mR k)) ∈ lw_tbl := lt_s kw_a58 kw_58
theorem kw_a60 : ∀ k, k < 60 → Cond.code (mY k) (mB k) (mL k) (rT (mR k)) ∈ lw_tbl := lt_s kw_a59 kw_59
theorem kw_a61 : ∀ k, k < 61 → Cond.code (mY k) (mB k) (mL k) (rT (mR k)) ∈ lw_tbl := lt_s kw_a60 kw_60
theorem kw_a62 : ∀ k, k < 62 → Cond.code (mY k) (mB k) (mL k) (rT (mR k)) ∈ lw_tbl := lt_s kw_a61 kw_61
theorem kw_a63 : ∀ k, k < 63 → Cond.code (mY k) (mB k) (mL k) (rT (mR k)) ∈ lw_tbl := lt_s kw_a62 kw_62
theorem kw_a64 : ∀ k, k < 64 → Cond.code (mY k) (mB k) (mL k) (rT (mR k)) ∈ lw_tbl := lt_s kw_a63 kw_63
theorem kw_a65 : ∀ k, k < 65 → Cond.code (mY k) (mB k) (mL k) (rT (mR k)) ∈ lw_tbl := lt_s kw_a64 kw_64
theorem kw_a66 : ∀ k, k < 66 → Cond.code (mY k) (mB k) (mL k) (rT (mR k)) ∈ lw_tbl := lt_s kw_a65 kw_65
theorem kw_a67 : ∀ k, k < 67 → Cond.code (mY k) (mB k) (mL k) (rT (mR k)) ∈ lw_tbl := lt_s kw_a66 kw_66
theorem kw_a68 : ∀ k, k < 68 → Cond.code (mY k) (mB k) (mL k) (rT (mR k)) ∈ lw_tbl := lt_s kw_a67 kw_67
theorem kw_a69 : ∀ k, k < 69 → Cond.code (mY k) (mB k) (mL k) (rT (mR k)) ∈ lw_tbl := lt_s kw_a68 kw_68
theorem kw_a70 : ∀ k, k < 70 → Cond.code (mY k) (mB k) (mL k) (rT (mR k)) ∈ lw_tbl := lt_s kw_a69 kw_69
theorem kw_a71 : ∀ k, k < 71 → Cond.code (mY k) (mB k) (mL k) (rT (mR k)) ∈ lw_tbl := lt_s kw_a70 kw_70
theorem kw_a72 : ∀ k, k < 72 → Cond.code (mY k) (mB k) (mL k) (rT (mR k)) ∈ lw_tbl := lt_s kw_a71 kw_71
theorem kw_a73 : ∀ k, k < 73 → Cond.code (mY k) (mB k) (mL k) (rT (mR k)) ∈ lw_tbl := lt_s kw_a72 kw_72
theorem kw_a74 : ∀ k, k < 74 → Cond.code (mY k) (mB k) (mL k) (rT (mR k)) ∈ lw_tbl := lt_s kw_a73 kw_73
theorem kw_a75 : ∀ k, k < 75 → Cond.code (mY k) (mB k) (mL k) (rT (mR k)) ∈ lw_tbl := lt_s kw_a74 kw_74
theorem kw_a76 : ∀ k, k < 76 → Cond.code (mY k) (mB k) (mL k) (rT (mR k)) ∈ lw_tbl := lt_s kw_a75 kw_75
theorem kw_a77 : ∀ k, k < 77 → Cond.code (mY k) (mB k) (mL k) (rT (mR k)) ∈ lw_tbl := lt_s kw_a76 kw_76
theorem kw_a78 : ∀ k, k < 78 → Cond.code (mY k) (mB k) (mL k) (rT (mR k)) ∈ lw_tbl := lt_s kw_a77 kw_77
theorem kw_a79 : ∀ k, k < 79 → Cond.code (mY k) (mB k) (mL k) (rT (mR k)) ∈ lw_tbl := lt_s kw_a78 kw_78
theorem kw_a80 : ∀ k, k < 80 → Cond.code (mY k) (mB k) (mL k) (rT (mR k)) ∈ lw_tbl := lt_s kw_a79 kw_79
theorem kw_a81 : ∀ k, k < 81 → Cond.code (mY k) (mB k) (mL k) (rT (mR k)) ∈ lw_tbl := lt_s kw_a80 kw_80
theorem kw_a82 : ∀ k, k < 82 → Cond.code (mY k) (mB k) (mL k) (rT (mR k)) ∈ lw_tbl := lt_s kw_a81 kw_81
theorem kw_a83 : ∀ k, k < 83 → Cond.code (mY k) (mB k) (mL k) (rT (mR k)) ∈ lw_tbl := lt_s kw_a82 kw_82
theorem kw_a84 : ∀ k, k < 84 → Cond.code (mY k) (mB k) (mL k) (rT (mR k)) ∈ lw_tbl := lt_s kw_a83 kw_83
theorem kw_a85 : ∀ k, k < 85 → Cond.code (mY k) (mB k) (mL k) (rT (mR k)) ∈ lw_tbl := lt_s kw_a84 kw_84
theorem kw_a86 : ∀ k, k < 86 → Cond.code (mY k) (mB k) (mL k) (rT (mR k)) ∈ lw_tbl := lt_s kw_a85 kw_85
theorem kw_a87 : ∀ k, k < 87 → Cond.code (mY k) (mB k) (mL k) (rT (mR k)) ∈ lw_tbl := lt_s kw_a86 kw_86
theorem kw_a88 : ∀ k, k < 88 → Cond.code (mY k) (mB k) (mL k) (rT (mR k)) ∈ lw_tbl := lt_s kw_a87 kw_87
theorem kw_a89 : ∀ k, k < 89 → Cond.code (mY k) (mB k) (mL k) (rT (mR k)) ∈ lw_tbl := lt_s kw_a88 kw_88
theorem kw_a90 : ∀ k, k < 90 → Cond.code (mY k) (mB k) (mL k) (rT (mR k)) ∈ lw_tbl := lt_s kw_a89 kw_89
theorem kw_a91 : ∀ k, k < 91 → Cond.code (mY k) (mB k) (mL k) (rT (mR k)) ∈ lw_tbl := lt_s kw_a90 kw_90
theorem kw_a92 : ∀ k, k < 92 → Cond.code (mY k) (mB k) (mL k) (rT (mR k)) ∈ lw_tbl := lt_s kw_a91 kw_91
theorem kw_a93 : ∀ k, k < 93 → Cond.code (mY k) (mB k) (mL k) (rT (mR k)) ∈ lw_tbl := lt_s kw_a92 kw_92
theorem kw_a94 : ∀ k, k < 94 → Cond.code (mY k) (mB k) (mL k) (rT (mR k)) ∈ lw_tbl := lt_s kw_a93 kw_93
theorem kw_a95 : ∀ k, k < 95 → Cond.code (mY k) (mB k) (mL k) (rT (mR k)) ∈ lw_tbl := lt_s kw_a94 kw_94
theorem kw_a96 : ∀ k, k < 96 → Cond.code (mY k) (mB k) (mL k) (rT (mR k)) ∈ lw_tbl := lt_s kw_a95 kw_95
theorem kw_a97 : ∀ k, k < 97 → Cond.code (mY k) (mB k) (mL k) (rT (mR k)) ∈ lw_tbl := lt_s kw_a96 kw_96
theorem kw_a98 : ∀ k, k < 98 → Cond.code (mY k) (mB k) (mL k) (rT (mR k)) ∈ lw_tbl := lt_s kw_a97 kw_97
theorem kw_a99 : ∀ k, k < 99 → Cond.code (mY k) (mB k) (mL k) (rT (mR k)) ∈ lw_tbl := lt_s kw_a98 kw_98
theorem kw_a100 : ∀ k, k < 100 → Cond.code (mY k) (mB k) (mL k) (rT (mR k)) ∈ lw_tbl := lt_s kw_a99 kw_99
theorem kw_a101 : ∀ k, k < 101 → Cond.code (mY k) (mB k) (mL k) (rT (mR k)) ∈ lw_tbl := lt_s kw_a100 kw_100
theorem kw_a102 : ∀ k, k < 102 → Cond.code (mY k) (mB k) (mL k) (rT (mR k)) ∈ lw_tbl := lt_s kw_a101 kw_101
theorem kw_a103 : ∀ k, k < 103 → Cond.code (mY k) (mB k) (mL k) (rT (mR k)) ∈ lw_tbl := lt_s kw_a102 kw_102
theorem kw_a104 : ∀ k, k < 104 → Cond.code (mY k) (mB k) (mL k) (rT (mR k)) ∈ lw_tbl := lt_s kw_a103 kw_103
theorem kw_a105 : ∀ k, k < 105 → Cond.code (mY k) (mB k) (mL k) (rT (mR k)) ∈ lw_tbl := lt_s kw_a104 kw_104
theorem kw_a106 : ∀ k, k < 106 → Cond.code (mY k) (mB k) (mL k) (rT (mR k)) ∈ lw_tbl := lt_s kw_a105 kw_105
theorem kw_a107 : ∀ k, k < 107 → Cond.code (mY k) (mB k) (mL k) (rT (mR k)) ∈ lw_tbl := lt_s kw_a106 kw_106
theorem kw_a108 : ∀ k, k < 108 → Cond.code (mY k) (mB k) (mL k) (rT (mR k)) ∈ lw_tbl := lt_s kw_a107 kw_107
theorem kw_a109 : ∀ k, k < 109 → Cond.code (mY k) (mB k) (mL k) (rT (mR k)) ∈ lw_tbl := lt_s kw_a108 kw_108
theorem kw_a110 : ∀ k, k < 110 → Cond.code (mY k) (mB k) (mL k) (rT (mR k)) ∈ lw_tbl := lt_s kw_a109 kw_109
theorem kw_a111 : ∀ k, k < 111 → Cond.code (mY k) (mB k) (mL k) (rT (mR k)) ∈ lw_tbl := lt_s kw_a110 kw_110
theorem kw_a112 : ∀ k, k < 112 → Cond.code (mY k) (mB k) (mL k) (rT (mR k)) ∈ lw_tbl := lt_s kw_a111 kw_111
theorem kw_a113 : ∀ k, k < 113 → Cond.code (mY k) (mB k) (mL k) (rT (mR k)) ∈ lw_tbl := lt_s kw_a112 kw_112
theorem kw_a114 : ∀ k, k < 114 → Cond.code (mY k) (mB k) (mL k) (rT (mR k)) ∈ lw_tbl := lt_s kw_a113 kw_113
theorem kw_a115 : ∀ k, k < 115 → Cond.code (mY k) (mB k) (mL k) (rT (mR k)) ∈ lw_tbl := lt_s kw_a114 kw_114
theorem kw_a116 : ∀ k, k < 116 → Cond.code (mY k) (mB k) (mL k) (rT (mR k)) ∈ lw_tbl := lt_s kw_a115 kw_115
theorem kw_a117 : ∀ k, k < 117 → Cond.code (mY k) (mB k) (mL k) (rT (mR k)) ∈ lw_tbl := lt_s kw_a116 kw_116
theorem kw_a118 : ∀ k, k < 118 → Cond.code (mY k) (mB k) (mL k) (rT (mR k)) ∈ lw_tbl := lt_s kw_a117 kw_117
theorem kw_a119 : ∀ k, k < 119 → Cond.code (mY k) (mB k) (mL k) (rT (mR k)) ∈ lw_tbl := lt_s kw_a118 kw_118
theorem kw_a120 : ∀ k, k < 120 → Cond.code (mY k) (mB k) (mL k) (rT (mR k)) ∈ lw_tbl := lt_s kw_a119 kw_119
theorem kw_a121 : ∀ k, k < 121 → Cond.code (mY k) (mB k) (mL k) (rT (mR k)) ∈ lw_tbl := lt_s kw_a120 kw_120
theorem kw_a122 : ∀ k, k < 122 → Cond.code (mY k) (mB k) (mL k) (rT (mR k)) ∈ lw_tbl := lt_s kw_a121 kw_121
theorem kw_a123 : ∀ k, k < 123 → Cond.code (mY k) (mB k) (mL k) (rT (mR k)) ∈ lw_tbl := lt_s kw_a122 kw_122
theorem kw_a124 : ∀ k, k < 124 → Cond.code (mY k) (mB k) (mL k) (rT (mR k)) ∈ lw_tbl := lt_s kw_a123 kw_123
theorem kw_a125 : ∀ k, k < 125 → Cond.code (mY k) (mB k) (mL k) (rT (mR k)) ∈ lw_tbl := lt_s kw_a124 kw_124
theorem kw_a126 : ∀ k, k < 126 → Cond.code (mY k) (mB k) (mL k) (rT (mR k)) ∈ lw_tbl := lt_s kw_a125 kw_125
theorem kw_a127 : ∀ k, k < 127 → Cond.code (mY k) (mB k) (mL k) (rT (mR k)) ∈ lw_tbl := lt_s kw_a126 kw_126
theorem kw_a128 : ∀ k, k < 128 → Cond.code (mY k) (mB k) (mL k) (rT (mR k)) ∈ lw_tbl := lt_s kw_a127 kw_127
theorem kw_a129 : ∀ k, k < 129 → Cond.code (mY k) (mB k) (mL k) (rT (mR k)) ∈ lw_tbl := lt_s kw_a128 kw_128
theorem kw_a130 : ∀ k, k < 130 → Cond.code (mY k) (mB k) (mL k) (rT (mR k)) ∈ lw_tbl := lt_s kw_a129 kw_129
theorem kw_a131 : ∀ k, k < 131 → Cond.code (mY k) (mB k) (mL k) (rT (mR k)) ∈ lw_tbl := lt_s kw_a130 kw_130
theorem kw_a132 : ∀ k, k < 132 → Cond.code (mY k) (mB k) (mL k) (rT (mR k)) ∈ lw_tbl := lt_s kw_a131 kw_131
theorem kw_a133 : ∀ k, k < 133 → Cond.code (mY k) (mB k) (mL k) (rT (mR k)) ∈ lw_tbl := lt_s kw_a132 kw_132
theorem kw_a134 : ∀ k, k < 134 → Cond.code (mY k) (mB k) (mL k) (rT (mR k)) ∈ lw_tbl := lt_s kw_a133 kw_133
theorem kw_a135 : ∀ k, k < 135 → Cond.code (mY k) (mB k) (mL k) (rT (mR k)) ∈ lw_tbl := lt_s kw_a134 kw_134
theorem kw_a136 : ∀ k, k < 136 → Cond.code (mY k) (mB k) (mL k) (rT (mR k)) ∈ lw_tbl := lt_s kw_a135 kw_135
theorem kw_a137 : ∀ k, k < 137 → Cond.code (mY k) (mB k) (mL k) (rT (mR k)) ∈ lw_tbl := lt_s kw_a136 kw_136
theorem kw_a138 : ∀ k, k < 138 → Cond.code (mY k) (mB k) (mL k) (rT (mR k)) ∈ lw_tbl := lt_s kw_a137 kw_137
theorem kw_a139 : ∀ k, k < 139 → Cond.code (mY k) (mB k) (mL k) (rT (mR k)) ∈ lw_tbl := lt_s kw_a138 kw_138
theorem kw_a140 : ∀ k, k < 140 → Cond.code (mY k) (mB k) (mL k) (rT (mR k)) ∈ lw_tbl := lt_s kw_a139 kw_139
theorem kw_a141 : ∀ k, k < 141 → Cond.code (mY k) (mB k) (mL k) (rT (mR k)) ∈ lw_tbl := lt_s kw_a140 kw_140
theorem kw_a142 : ∀ k, k < 142 → Cond.code (mY k) (mB k) (mL k) (rT (mR k)) ∈ lw_tbl := lt_s kw_a141 kw_141
theorem kw_a143 : ∀ k, k < 143 → Cond.code (mY k) (mB k) (mL k) (rT (mR k)) ∈ lw_tbl := lt_s kw_a142 kw_142
theorem kw_a144 : ∀ k, k < 144 → Cond.code (mY k) (mB k) (mL k) (rT (mR k)) ∈ lw_tbl := lt_s kw_a143 kw_143
theorem kw_a145 : ∀ k, k < 145 → Cond.code (mY k) (mB k) (mL k) (rT (mR k)) ∈ lw_tbl := lt_s kw_a144 kw_144
theorem kw_a146 : ∀ k, k < 146 → Cond.code (mY k) (mB k) (mL k) (rT (mR k)) ∈ lw_tbl := lt_s kw_a145 kw_145
theorem kw_a147 : ∀ k, k < 147 → Cond.code (mY k) (mB k) (mL k) (rT (mR k)) ∈ lw_tbl := lt_s kw_a146 kw_146
theorem kw_a148 : ∀ k, k < 148 → Cond.code (mY k) (mB k) (mL k) (rT (mR k)) ∈ lw_tbl := lt_s kw_a147 kw_147
theorem kw_a149 : ∀ k, k < 149 → Cond.code (mY k) (mB k) (mL k) (rT (mR k)) ∈ lw_tbl := lt_s kw_a148 kw_148
theorem kw_a150 : ∀ k, k < 150 → Cond.code (mY k) (mB k) (mL k) (rT (mR k)) ∈ lw_tbl := lt_s kw_a149 kw_149
theorem kw_a151 : ∀ k, k < 151 → Cond.code (mY k) (mB k) (mL k) (rT (mR k)) ∈ lw_tbl := lt_s kw_a150 kw_150
theorem kw_a152 : ∀ k, k < 152 → Cond.code (mY k) (mB k) (mL k) (rT (mR k)) ∈ lw_tbl := lt_s kw_a151 kw_151
theorem kw_a153 : ∀ k, k < 153 → Cond.code (mY k) (mB k) (mL k) (rT (mR k)) ∈ lw_tbl := lt_s kw_a152 kw_152
theorem kw_a154 : ∀ k, k < 154 → Cond.code (mY k) (mB k) (mL k) (rT (mR k)) ∈ lw_tbl := lt_s kw_a153 kw_153
theorem kw_a155 : ∀ k, k < 155 → Cond.code (mY k) (mB k) (mL k) (rT (mR k)) ∈ lw_tbl := lt_s kw_a154 kw_154
theorem kw_a156 : ∀ k, k < 156 → Cond.code (mY k) (mB k) (mL k) (rT (mR k)) ∈ lw_tbl := lt_s kw_a155 kw_155
theorem kw_a157 : ∀ k, k < 157 → Cond.code (mY k) (mB k) (mL k) (rT (mR k)) ∈ lw_tbl := lt_s kw_a156 kw_156
theorem kw_a158 : ∀ k, k < 158 → Cond.code (mY k) (mB k) (mL k) (rT (mR k)) ∈ lw_tbl := lt_s kw_a157 kw_157
theorem kw_a159 : ∀ k, k < 159 → Cond.code (mY k) (mB k) (mL k) (rT (mR k)) ∈ lw_tbl := lt_s kw_a158 kw_158
theorem kw_a160 : ∀ k, k < 160 → Cond.code (mY k) (mB k) (mL k) (rT (mR k)) ∈ lw_tbl := lt_s kw_a159 kw_159
theorem kw_a161 : ∀ k, k < 161 → Cond.code (mY k) (mB k) (mL k) (rT (mR k)) ∈ lw_tbl := lt_s kw_a160 kw_160
theorem kw_a162 : ∀ k, k < 162 → Cond.code (mY k) (mB k) (mL k) (rT (mR k)) ∈ lw_tbl := lt_s kw_a161 kw_161
theorem kw_a163 : ∀ k, k < 163 → Cond.code (mY k) (mB k) (mL k) (rT (mR k)) ∈ lw_tbl := lt_s kw_a162 kw_162
theorem kw_a164 : ∀ k, k < 164 → Cond.code (mY k) (mB k) (mL k) (rT (mR k)) ∈ lw_tbl := lt_s kw_a163 kw_163
