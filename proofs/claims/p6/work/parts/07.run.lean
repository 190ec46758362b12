/-! A METHOD'S CONTRACT OUT OF A TABLE OF STEPS AND A WALK -/
theorem mx_run {l : Launch} {y : MethodName} {ws ws' : List Cond} {rm : Room} {cc : ByteArray} {maxL : Nat} {ret : Option FieldType} {tab : List (Nat × mx_O)} (hy : plainName y.cls = true) (hw : ws = Cond.code y cc maxL ret :: ws') (D : va_G) (tc : Nat → ClassId) (tb ad : Nat → Nat) (As : List mx_V) (F : mx_F) (P : Option mx_V → mx_F → Prop) (sz : Nat) (hn : (mx_ar As).length ≤ maxL)
    (hall : ∀ (p : Program) (e : Env) (s : State) (m : MethodId) (args : Array Value) (below : List Frame) (meth : Method) (c : Code), mx_C p s m args c cc y.cls ws D tc tb (mx_A ad F sz) maxL (mx_Ok0 ad F) → meth.sig.returnType = ret → meth.locks = false →
      mx_all (mx_W p l e rm s m args below meth c (MQ below (mx_Q D tc tb ad F sz P) args s 0 0 (mx_A ad F sz)) D tc tb (mx_A ad F sz) maxL (mx_Ok0 ad F)) tab)
    (body : ∀ Rr : mx_K, (∀ {pc : Nat} {o : mx_O} {lv : mx_L} {st : mx_S} {F : mx_F} {ca sl : Nat}, mx_at tab pc = some o → o lv st F ca sl Rr → Rr pc lv st F ca sl) → Rr 0 (mx_en As maxL) [] F 0 0) :
    Met l y ws rm (va_Pc (As.map (mx_v ad tb)) (mx_B D tc tb ad F sz)) (mx_Q D tc tb ad F sz P) 0 0 (mx_A ad F sz) :=
  mx_enter hy hw D tc tb ad As F P sz hn (fun p e s m args below meth c C hr hlk => body _ (fun h1 h2 => mx_go (hall p e s m args below meth c C hr hlk) h1 h2))
theorem mx_run1 {l : Launch} {y : MethodName} {ws ws' : List Cond} {rm : Room} {cc : ByteArray} {maxL : Nat} {ret : Option FieldType} {tab : List (Nat × mx_O)} (hy : plainName y.cls = true) (hw : ws = Cond.code y cc maxL ret :: ws') (D : va_G) (tc : Nat → ClassId) (tb ad : Nat → Nat) (As : List mx_V) (F : mx_F) (P : Option mx_V → mx_F → Prop) (sz : Nat) (hn : (mx_ar As).length ≤ maxL)
    (hall : ∀ (p : Program) (e : Env) (s : State) (m : MethodId) (args : Array Value) (below : List Frame) (meth : Method) (c : Code), mx_C p s m args c cc y.cls ws D tc tb (mx_A ad F sz) maxL (mx_Ok1 ad F) → meth.sig.returnType = ret → meth.locks = false → meth.name = y.name →
      mx_all (mx_W p l e rm s m args below meth c (MQ below (mx_Q1 D tc tb ad F sz P) args s rm.cells rm.slots (mx_A ad F sz)) D tc tb (mx_A ad F sz) maxL (mx_Ok1 ad F)) tab)
    (body : ∀ Rr : mx_K, (∀ {pc : Nat} {o : mx_O} {lv : mx_L} {st : mx_S} {F : mx_F} {ca sl : Nat}, mx_at tab pc = some o → o lv st F ca sl Rr → Rr pc lv st F ca sl) → Rr 0 (mx_en As maxL) [] F 0 0) :
    Met l y ws rm (va_Pc (As.map (mx_v ad tb)) (mx_B D tc tb ad F sz)) (mx_Q1 D tc tb ad F sz P) rm.cells rm.slots (mx_A ad F sz) :=
  mx_enter1 hy hw D tc tb ad As F P sz hn (fun p e s m args below meth c C hr hlk hnm => body _ (fun h1 h2 => mx_go (hall p e s m args below meth c C hr hlk hnm) h1 h2))
theorem mx_as1 {F : mx_F} {k : Nat} {e : mx_E} (h : F k = some e) : F = mx_put F k e := (mx_self h).symm
theorem mx_as2 {F : mx_F} {k1 k2 : Nat} {e1 e2 : mx_E} (h1 : F k1 = some e1) (h2 : F k2 = some e2) : F = mx_put (mx_put F k1 e1) k2 e2 := by
  rw [mx_self h1, mx_self h2]
theorem mx_as3 {F : mx_F} {k1 k2 k3 : Nat} {e1 e2 e3 : mx_E} (h1 : F k1 = some e1) (h2 : F k2 = some e2) (h3 : F k3 = some e3) : F = mx_put (mx_put (mx_put F k1 e1) k2 e2) k3 e3 := by
  rw [mx_self h1, mx_self h2, mx_self h3]
theorem mx_as4 {F : mx_F} {k1 k2 k3 k4 : Nat} {e1 e2 e3 e4 : mx_E} (h1 : F k1 = some e1) (h2 : F k2 = some e2) (h3 : F k3 = some e3) (h4 : F k4 = some e4) : F = mx_put (mx_put (mx_put (mx_put F k1 e1) k2 e2) k3 e3) k4 e4 := by
  rw [mx_self h1, mx_self h2, mx_self h3, mx_self h4]
theorem mx_as5 {F : mx_F} {k1 k2 k3 k4 k5 : Nat} {e1 e2 e3 e4 e5 : mx_E} (h1 : F k1 = some e1) (h2 : F k2 = some e2) (h3 : F k3 = some e3) (h4 : F k4 = some e4) (h5 : F k5 = some e5) : F = mx_put (mx_put (mx_put (mx_put (mx_put F k1 e1) k2 e2) k3 e3) k4 e4) k5 e5 := by
  rw [mx_self h1, mx_self h2, mx_self h3, mx_self h4, mx_self h5]
-- the cells of the class, by their places
abbrev e_L : mx_E := mx_ob 6 [mx_r 1, mx_r 3, mx_r 6, mx_r 10, mx_r 15, mx_r 29]
abbrev e_R (n : Nat) : mx_E := mx_ob 3 [mx_r 2, mx_i (nI n)]
abbrev e_W (n : Nat) : mx_E := mx_ob 5 [mx_r 4, mx_r 5, mx_i (nI n)]
abbrev e_D (rc : Int32) (sh : Int64) (wt : Int32) : mx_E := mx_ob 2 [mx_r 3, mx_r 7, mx_r 8, mx_r 9, mx_i rc, mx_l sh, mx_i wt]
abbrev e_G (fc kc tot wt : Int32) : mx_E := mx_ob 0 [mx_r 3, mx_r 11, mx_r 12, mx_i fc, mx_r 13, mx_r 14, mx_i kc, mx_i tot, mx_i wt]
abbrev e_Q (sz wt : Int32) : mx_E := mx_ob 4 [mx_r 3, mx_r 16, mx_r 17, mx_r 18, mx_i sz, mx_i wt]
abbrev e_C : mx_E := mx_ob 1 [mx_r 3, mx_r 30]
-- the reference: thrown, size, many, steps, ways, kept, side
abbrev e_M (th sz mn sp : Int32) (wy : Int64) (kp sd : Int32) : mx_E := mx_ob 7 [mx_i th, mx_i sz, mx_r 41, mx_i mn, mx_r 42, mx_r 43, mx_i sp, mx_r 44, mx_l wy, mx_r 45, mx_r 46, mx_i kp, mx_r 47, mx_r 48, mx_r 49, mx_i sd, mx_r 50, mx_r 51]
