theorem sq_iconst (G : cG) (d : Nat) (b : Bool) (mi ci nl : Nat) (rt : Option FieldType) (n1 : Nat) (Q : tQ) (pc : Nat) (ls : List (Option Value)) (st : List Value) (n : Nat) (I : MI) (L : ML) (R : MR) (k : tK) (c : Int) : stepP G d b mi ci nl rt n1 Q (.iconst c) pc ls st n I L R k = (k (pc + 1) ls (.int (Int32.ofInt c) :: st) n I L R) := rfl
theorem il_iconst (len : Nat) (c : Int) : iLen (.iconst c) len = (len = 1) := rfl
theorem sq_bipush (G : cG) (d : Nat) (b : Bool) (mi ci nl : Nat) (rt : Option FieldType) (n1 : Nat) (Q : tQ) (pc : Nat) (ls : List (Option Value)) (st : List Value) (n : Nat) (I : MI) (L : ML) (R : MR) (k : tK) (c : Int) : stepP G d b mi ci nl rt n1 Q (.bipush c) pc ls st n I L R k = (k (pc + 2) ls (.int (i8 c) :: st) n I L R) := rfl
theorem il_bipush (len : Nat) (c : Int) : iLen (.bipush c) len = (len = 2) := rfl
theorem sq_sipush (G : cG) (d : Nat) (b : Bool) (mi ci nl : Nat) (rt : Option FieldType) (n1 : Nat) (Q : tQ) (pc : Nat) (ls : List (Option Value)) (st : List Value) (n : Nat) (I : MI) (L : ML) (R : MR) (k : tK) (c : Int) : stepP G d b mi ci nl rt n1 Q (.sipush c) pc ls st n I L R k = (k (pc + 3) ls (.int (i16 c) :: st) n I L R) := rfl
theorem il_sipush (len : Nat) (c : Int) : iLen (.sipush c) len = (len = 3) := rfl
theorem sq_lconst (G : cG) (d : Nat) (b : Bool) (mi ci nl : Nat) (rt : Option FieldType) (n1 : Nat) (Q : tQ) (pc : Nat) (ls : List (Option Value)) (st : List Value) (n : Nat) (I : MI) (L : ML) (R : MR) (k : tK) (c : Fin 2) : stepP G d b mi ci nl rt n1 Q (.lconst c) pc ls st n I L R k = (k (pc + 1) ls (.long (Int64.ofNat c) :: st) n I L R) := rfl
theorem il_lconst (len : Nat) (c : Fin 2) : iLen (.lconst c) len = (len = 1) := rfl
theorem sq_iload_n (G : cG) (d : Nat) (b : Bool) (mi ci nl : Nat) (rt : Option FieldType) (n1 : Nat) (Q : tQ) (pc : Nat) (ls : List (Option Value)) (st : List Value) (n : Nat) (I : MI) (L : ML) (R : MR) (k : tK) (j : Fin 4) : stepP G d b mi ci nl rt n1 Q (.iload_n j) pc ls st n I L R k = (lI ls j (fun x => k (pc + 1) ls (.int x :: st) n I L R)) := rfl
theorem il_iload_n (len : Nat) (j : Fin 4) : iLen (.iload_n j) len = (len = 1) := rfl
theorem sq_iload (G : cG) (d : Nat) (b : Bool) (mi ci nl : Nat) (rt : Option FieldType) (n1 : Nat) (Q : tQ) (pc : Nat) (ls : List (Option Value)) (st : List Value) (n : Nat) (I : MI) (L : ML) (R : MR) (k : tK) (j : Nat) : stepP G d b mi ci nl rt n1 Q (.iload j) pc ls st n I L R k = (lI ls j (fun x => k (pc + 2) ls (.int x :: st) n I L R)) := rfl
theorem il_iload (len : Nat) (j : Nat) : iLen (.iload j) len = (len = 2) := rfl
theorem sq_lload_n (G : cG) (d : Nat) (b : Bool) (mi ci nl : Nat) (rt : Option FieldType) (n1 : Nat) (Q : tQ) (pc : Nat) (ls : List (Option Value)) (st : List Value) (n : Nat) (I : MI) (L : ML) (R : MR) (k : tK) (j : Fin 4) : stepP G d b mi ci nl rt n1 Q (.lload_n j) pc ls st n I L R k = (lL ls j (fun x => k (pc + 1) ls (.long x :: st) n I L R)) := rfl
theorem il_lload_n (len : Nat) (j : Fin 4) : iLen (.lload_n j) len = (len = 1) := rfl
theorem sq_lload (G : cG) (d : Nat) (b : Bool) (mi ci nl : Nat) (rt : Option FieldType) (n1 : Nat) (Q : tQ) (pc : Nat) (ls : List (Option Value)) (st : List Value) (n : Nat) (I : MI) (L : ML) (R : MR) (k : tK) (j : Nat) : stepP G d b mi ci nl rt n1 Q (.lload j) pc ls st n I L R k = (lL ls j (fun x => k (pc + 2) ls (.long x :: st) n I L R)) := rfl
theorem il_lload (len : Nat) (j : Nat) : iLen (.lload j) len = (len = 2) := rfl
theorem sq_aload_n (G : cG) (d : Nat) (b : Bool) (mi ci nl : Nat) (rt : Option FieldType) (n1 : Nat) (Q : tQ) (pc : Nat) (ls : List (Option Value)) (st : List Value) (n : Nat) (I : MI) (L : ML) (R : MR) (k : tK) (j : Fin 4) : stepP G d b mi ci nl rt n1 Q (.aload_n j) pc ls st n I L R k = (lR ls j (fun x => k (pc + 1) ls (.ref x :: st) n I L R)) := rfl
theorem il_aload_n (len : Nat) (j : Fin 4) : iLen (.aload_n j) len = (len = 1) := rfl
theorem sq_aload (G : cG) (d : Nat) (b : Bool) (mi ci nl : Nat) (rt : Option FieldType) (n1 : Nat) (Q : tQ) (pc : Nat) (ls : List (Option Value)) (st : List Value) (n : Nat) (I : MI) (L : ML) (R : MR) (k : tK) (j : Nat) : stepP G d b mi ci nl rt n1 Q (.aload j) pc ls st n I L R k = (lR ls j (fun x => k (pc + 2) ls (.ref x :: st) n I L R)) := rfl
theorem il_aload (len : Nat) (j : Nat) : iLen (.aload j) len = (len = 2) := rfl
theorem sq_istore_n (G : cG) (d : Nat) (b : Bool) (mi ci nl : Nat) (rt : Option FieldType) (n1 : Nat) (Q : tQ) (pc : Nat) (ls : List (Option Value)) (st : List Value) (n : Nat) (I : MI) (L : ML) (R : MR) (k : tK) (j : Fin 4) : stepP G d b mi ci nl rt n1 Q (.istore_n j) pc ls st n I L R k = (sI1 st (fun x r => (j : Nat) < nl ∧ okS ls (j : Nat) ∧ k (pc + 1) (lS ls (j : Nat) (some (.int x))) r n I L R)) := rfl
theorem il_istore_n (len : Nat) (j : Fin 4) : iLen (.istore_n j) len = (len = 1) := rfl
theorem sq_istore (G : cG) (d : Nat) (b : Bool) (mi ci nl : Nat) (rt : Option FieldType) (n1 : Nat) (Q : tQ) (pc : Nat) (ls : List (Option Value)) (st : List Value) (n : Nat) (I : MI) (L : ML) (R : MR) (k : tK) (j : Nat) : stepP G d b mi ci nl rt n1 Q (.istore j) pc ls st n I L R k = (sI1 st (fun x r => j < nl ∧ okS ls j ∧ k (pc + 2) (lS ls j (some (.int x))) r n I L R)) := rfl
theorem il_istore (len : Nat) (j : Nat) : iLen (.istore j) len = (len = 2) := rfl
theorem sq_astore_n (G : cG) (d : Nat) (b : Bool) (mi ci nl : Nat) (rt : Option FieldType) (n1 : Nat) (Q : tQ) (pc : Nat) (ls : List (Option Value)) (st : List Value) (n : Nat) (I : MI) (L : ML) (R : MR) (k : tK) (j : Fin 4) : stepP G d b mi ci nl rt n1 Q (.astore_n j) pc ls st n I L R k = (sR1 st (fun x r => (j : Nat) < nl ∧ okS ls (j : Nat) ∧ k (pc + 1) (lS ls (j : Nat) (some (.ref x))) r n I L R)) := rfl
theorem il_astore_n (len : Nat) (j : Fin 4) : iLen (.astore_n j) len = (len = 1) := rfl
theorem sq_astore (G : cG) (d : Nat) (b : Bool) (mi ci nl : Nat) (rt : Option FieldType) (n1 : Nat) (Q : tQ) (pc : Nat) (ls : List (Option Value)) (st : List Value) (n : Nat) (I : MI) (L : ML) (R : MR) (k : tK) (j : Nat) : stepP G d b mi ci nl rt n1 Q (.astore j) pc ls st n I L R k = (sR1 st (fun x r => j < nl ∧ okS ls j ∧ k (pc + 2) (lS ls j (some (.ref x))) r n I L R)) := rfl
theorem il_astore (len : Nat) (j : Nat) : iLen (.astore j) len = (len = 2) := rfl
theorem sq_lstore_n (G : cG) (d : Nat) (b : Bool) (mi ci nl : Nat) (rt : Option FieldType) (n1 : Nat) (Q : tQ) (pc : Nat) (ls : List (Option Value)) (st : List Value) (n : Nat) (I : MI) (L : ML) (R : MR) (k : tK) (j : Fin 4) : stepP G d b mi ci nl rt n1 Q (.lstore_n j) pc ls st n I L R k = (sL1 st (fun x r => (j : Nat) + 1 < nl ∧ okS ls (j : Nat) ∧ k (pc + 1) (lS (lS ls (j : Nat) (some (.long x))) ((j : Nat) + 1) none) r n I L R)) := rfl
theorem il_lstore_n (len : Nat) (j : Fin 4) : iLen (.lstore_n j) len = (len = 1) := rfl
theorem sq_lstore (G : cG) (d : Nat) (b : Bool) (mi ci nl : Nat) (rt : Option FieldType) (n1 : Nat) (Q : tQ) (pc : Nat) (ls : List (Option Value)) (st : List Value) (n : Nat) (I : MI) (L : ML) (R : MR) (k : tK) (j : Nat) : stepP G d b mi ci nl rt n1 Q (.lstore j) pc ls st n I L R k = (sL1 st (fun x r => j + 1 < nl ∧ okS ls j ∧ k (pc + 2) (lS (lS ls j (some (.long x))) (j + 1) none) r n I L R)) := rfl
theorem il_lstore (len : Nat) (j : Nat) : iLen (.lstore j) len = (len = 2) := rfl
theorem sq_iinc (G : cG) (d : Nat) (b : Bool) (mi ci nl : Nat) (rt : Option FieldType) (n1 : Nat) (Q : tQ) (pc : Nat) (ls : List (Option Value)) (st : List Value) (n : Nat) (I : MI) (L : ML) (R : MR) (k : tK) (j : Nat) (c : Int) : stepP G d b mi ci nl rt n1 Q (.iinc j c) pc ls st n I L R k = (lI ls j (fun x => j < nl ∧ okS ls j ∧ k (pc + 3) (lS ls j (some (.int (x + Int32.ofInt c)))) st n I L R)) := rfl
theorem il_iinc (len : Nat) (j : Nat) (c : Int) : iLen (.iinc j c) len = (len = 3) := rfl
theorem sq_iadd (G : cG) (d : Nat) (b : Bool) (mi ci nl : Nat) (rt : Option FieldType) (n1 : Nat) (Q : tQ) (pc : Nat) (ls : List (Option Value)) (st : List Value) (n : Nat) (I : MI) (L : ML) (R : MR) (k : tK)  : stepP G d b mi ci nl rt n1 Q (.iadd) pc ls st n I L R k = (sI2 st (fun x y r => k (pc + 1) ls (.int (x + y) :: r) n I L R)) := rfl
theorem il_iadd (len : Nat)  : iLen (.iadd) len = (len = 1) := rfl
theorem sq_isub (G : cG) (d : Nat) (b : Bool) (mi ci nl : Nat) (rt : Option FieldType) (n1 : Nat) (Q : tQ) (pc : Nat) (ls : List (Option Value)) (st : List Value) (n : Nat) (I : MI) (L : ML) (R : MR) (k : tK)  : stepP G d b mi ci nl rt n1 Q (.isub) pc ls st n I L R k = (sI2 st (fun x y r => k (pc + 1) ls (.int (x - y) :: r) n I L R)) := rfl
theorem il_isub (len : Nat)  : iLen (.isub) len = (len = 1) := rfl
theorem sq_imul (G : cG) (d : Nat) (b : Bool) (mi ci nl : Nat) (rt : Option FieldType) (n1 : Nat) (Q : tQ) (pc : Nat) (ls : List (Option Value)) (st : List Value) (n : Nat) (I : MI) (L : ML) (R : MR) (k : tK)  : stepP G d b mi ci nl rt n1 Q (.imul) pc ls st n I L R k = (sI2 st (fun x y r => k (pc + 1) ls (.int (x * y) :: r) n I L R)) := rfl
theorem il_imul (len : Nat)  : iLen (.imul) len = (len = 1) := rfl
theorem sq_iand (G : cG) (d : Nat) (b : Bool) (mi ci nl : Nat) (rt : Option FieldType) (n1 : Nat) (Q : tQ) (pc : Nat) (ls : List (Option Value)) (st : List Value) (n : Nat) (I : MI) (L : ML) (R : MR) (k : tK)  : stepP G d b mi ci nl rt n1 Q (.iand) pc ls st n I L R k = (sI2 st (fun x y r => k (pc + 1) ls (.int (x &&& y) :: r) n I L R)) := rfl
theorem il_iand (len : Nat)  : iLen (.iand) len = (len = 1) := rfl
theorem sq_ior (G : cG) (d : Nat) (b : Bool) (mi ci nl : Nat) (rt : Option FieldType) (n1 : Nat) (Q : tQ) (pc : Nat) (ls : List (Option Value)) (st : List Value) (n : Nat) (I : MI) (L : ML) (R : MR) (k : tK)  : stepP G d b mi ci nl rt n1 Q (.ior) pc ls st n I L R k = (sI2 st (fun x y r => k (pc + 1) ls (.int (x ||| y) :: r) n I L R)) := rfl
theorem il_ior (len : Nat)  : iLen (.ior) len = (len = 1) := rfl
theorem sq_ixor (G : cG) (d : Nat) (b : Bool) (mi ci nl : Nat) (rt : Option FieldType) (n1 : Nat) (Q : tQ) (pc : Nat) (ls : List (Option Value)) (st : List Value) (n : Nat) (I : MI) (L : ML) (R : MR) (k : tK)  : stepP G d b mi ci nl rt n1 Q (.ixor) pc ls st n I L R k = (sI2 st (fun x y r => k (pc + 1) ls (.int (x ^^^ y) :: r) n I L R)) := rfl
theorem il_ixor (len : Nat)  : iLen (.ixor) len = (len = 1) := rfl
theorem sq_ishl (G : cG) (d : Nat) (b : Bool) (mi ci nl : Nat) (rt : Option FieldType) (n1 : Nat) (Q : tQ) (pc : Nat) (ls : List (Option Value)) (st : List Value) (n : Nat) (I : MI) (L : ML) (R : MR) (k : tK)  : stepP G d b mi ci nl rt n1 Q (.ishl) pc ls st n I L R k = (sI2 st (fun x y r => k (pc + 1) ls (.int (x <<< (y &&& 31)) :: r) n I L R)) := rfl
theorem il_ishl (len : Nat)  : iLen (.ishl) len = (len = 1) := rfl
theorem sq_ishr (G : cG) (d : Nat) (b : Bool) (mi ci nl : Nat) (rt : Option FieldType) (n1 : Nat) (Q : tQ) (pc : Nat) (ls : List (Option Value)) (st : List Value) (n : Nat) (I : MI) (L : ML) (R : MR) (k : tK)  : stepP G d b mi ci nl rt n1 Q (.ishr) pc ls st n I L R k = (sI2 st (fun x y r => k (pc + 1) ls (.int (x >>> (y &&& 31)) :: r) n I L R)) := rfl
theorem il_ishr (len : Nat)  : iLen (.ishr) len = (len = 1) := rfl
theorem sq_iushr (G : cG) (d : Nat) (b : Bool) (mi ci nl : Nat) (rt : Option FieldType) (n1 : Nat) (Q : tQ) (pc : Nat) (ls : List (Option Value)) (st : List Value) (n : Nat) (I : MI) (L : ML) (R : MR) (k : tK)  : stepP G d b mi ci nl rt n1 Q (.iushr) pc ls st n I L R k = (sI2 st (fun x y r => k (pc + 1) ls (.int ((x.toUInt32 >>> (y.toUInt32 &&& Int32.toUInt32 31)).toInt32) :: r) n I L R)) := rfl
theorem il_iushr (len : Nat)  : iLen (.iushr) len = (len = 1) := rfl
theorem sq_idiv (G : cG) (d : Nat) (b : Bool) (mi ci nl : Nat) (rt : Option FieldType) (n1 : Nat) (Q : tQ) (pc : Nat) (ls : List (Option Value)) (st : List Value) (n : Nat) (I : MI) (L : ML) (R : MR) (k : tK)  : stepP G d b mi ci nl rt n1 Q (.idiv) pc ls st n I L R k = (sI2 st (fun x y r => ¬ y = 0 ∧ k (pc + 1) ls (.int (x / y) :: r) n I L R)) := rfl
theorem il_idiv (len : Nat)  : iLen (.idiv) len = (len = 1) := rfl
theorem sq_irem (G : cG) (d : Nat) (b : Bool) (mi ci nl : Nat) (rt : Option FieldType) (n1 : Nat) (Q : tQ) (pc : Nat) (ls : List (Option Value)) (st : List Value) (n : Nat) (I : MI) (L : ML) (R : MR) (k : tK)  : stepP G d b mi ci nl rt n1 Q (.irem) pc ls st n I L R k = (sI2 st (fun x y r => ¬ y = 0 ∧ k (pc + 1) ls (.int (rmI x y) :: r) n I L R)) := rfl
theorem il_irem (len : Nat)  : iLen (.irem) len = (len = 1) := rfl
theorem sq_ineg (G : cG) (d : Nat) (b : Bool) (mi ci nl : Nat) (rt : Option FieldType) (n1 : Nat) (Q : tQ) (pc : Nat) (ls : List (Option Value)) (st : List Value) (n : Nat) (I : MI) (L : ML) (R : MR) (k : tK)  : stepP G d b mi ci nl rt n1 Q (.ineg) pc ls st n I L R k = (sI1 st (fun x r => k (pc + 1) ls (.int (-x) :: r) n I L R)) := rfl
theorem il_ineg (len : Nat)  : iLen (.ineg) len = (len = 1) := rfl
theorem sq_i2b (G : cG) (d : Nat) (b : Bool) (mi ci nl : Nat) (rt : Option FieldType) (n1 : Nat) (Q : tQ) (pc : Nat) (ls : List (Option Value)) (st : List Value) (n : Nat) (I : MI) (L : ML) (R : MR) (k : tK)  : stepP G d b mi ci nl rt n1 Q (.i2b) pc ls st n I L R k = (sI1 st (fun x r => k (pc + 1) ls (.int (x.toInt8.toInt32) :: r) n I L R)) := rfl
theorem il_i2b (len : Nat)  : iLen (.i2b) len = (len = 1) := rfl
theorem sq_i2s (G : cG) (d : Nat) (b : Bool) (mi ci nl : Nat) (rt : Option FieldType) (n1 : Nat) (Q : tQ) (pc : Nat) (ls : List (Option Value)) (st : List Value) (n : Nat) (I : MI) (L : ML) (R : MR) (k : tK)  : stepP G d b mi ci nl rt n1 Q (.i2s) pc ls st n I L R k = (sI1 st (fun x r => k (pc + 1) ls (.int (x.toInt16.toInt32) :: r) n I L R)) := rfl
theorem il_i2s (len : Nat)  : iLen (.i2s) len = (len = 1) := rfl
theorem sq_i2l (G : cG) (d : Nat) (b : Bool) (mi ci nl : Nat) (rt : Option FieldType) (n1 : Nat) (Q : tQ) (pc : Nat) (ls : List (Option Value)) (st : List Value) (n : Nat) (I : MI) (L : ML) (R : MR) (k : tK)  : stepP G d b mi ci nl rt n1 Q (.i2l) pc ls st n I L R k = (sI1 st (fun x r => k (pc + 1) ls (.long x.toInt64 :: r) n I L R)) := rfl
theorem il_i2l (len : Nat)  : iLen (.i2l) len = (len = 1) := rfl
theorem sq_l2i (G : cG) (d : Nat) (b : Bool) (mi ci nl : Nat) (rt : Option FieldType) (n1 : Nat) (Q : tQ) (pc : Nat) (ls : List (Option Value)) (st : List Value) (n : Nat) (I : MI) (L : ML) (R : MR) (k : tK)  : stepP G d b mi ci nl rt n1 Q (.l2i) pc ls st n I L R k = (sL1 st (fun x r => k (pc + 1) ls (.int x.toInt32 :: r) n I L R)) := rfl
theorem il_l2i (len : Nat)  : iLen (.l2i) len = (len = 1) := rfl
theorem sq_ladd (G : cG) (d : Nat) (b : Bool) (mi ci nl : Nat) (rt : Option FieldType) (n1 : Nat) (Q : tQ) (pc : Nat) (ls : List (Option Value)) (st : List Value) (n : Nat) (I : MI) (L : ML) (R : MR) (k : tK)  : stepP G d b mi ci nl rt n1 Q (.ladd) pc ls st n I L R k = (sL2 st (fun x y r => k (pc + 1) ls (.long (x + y) :: r) n I L R)) := rfl
theorem il_ladd (len : Nat)  : iLen (.ladd) len = (len = 1) := rfl
theorem sq_lsub (G : cG) (d : Nat) (b : Bool) (mi ci nl : Nat) (rt : Option FieldType) (n1 : Nat) (Q : tQ) (pc : Nat) (ls : List (Option Value)) (st : List Value) (n : Nat) (I : MI) (L : ML) (R : MR) (k : tK)  : stepP G d b mi ci nl rt n1 Q (.lsub) pc ls st n I L R k = (sL2 st (fun x y r => k (pc + 1) ls (.long (x - y) :: r) n I L R)) := rfl
theorem il_lsub (len : Nat)  : iLen (.lsub) len = (len = 1) := rfl
theorem sq_land (G : cG) (d : Nat) (b : Bool) (mi ci nl : Nat) (rt : Option FieldType) (n1 : Nat) (Q : tQ) (pc : Nat) (ls : List (Option Value)) (st : List Value) (n : Nat) (I : MI) (L : ML) (R : MR) (k : tK)  : stepP G d b mi ci nl rt n1 Q (.land) pc ls st n I L R k = (sL2 st (fun x y r => k (pc + 1) ls (.long (x &&& y) :: r) n I L R)) := rfl
theorem il_land (len : Nat)  : iLen (.land) len = (len = 1) := rfl
theorem sq_lor (G : cG) (d : Nat) (b : Bool) (mi ci nl : Nat) (rt : Option FieldType) (n1 : Nat) (Q : tQ) (pc : Nat) (ls : List (Option Value)) (st : List Value) (n : Nat) (I : MI) (L : ML) (R : MR) (k : tK)  : stepP G d b mi ci nl rt n1 Q (.lor) pc ls st n I L R k = (sL2 st (fun x y r => k (pc + 1) ls (.long (x ||| y) :: r) n I L R)) := rfl
theorem il_lor (len : Nat)  : iLen (.lor) len = (len = 1) := rfl
theorem sq_lxor (G : cG) (d : Nat) (b : Bool) (mi ci nl : Nat) (rt : Option FieldType) (n1 : Nat) (Q : tQ) (pc : Nat) (ls : List (Option Value)) (st : List Value) (n : Nat) (I : MI) (L : ML) (R : MR) (k : tK)  : stepP G d b mi ci nl rt n1 Q (.lxor) pc ls st n I L R k = (sL2 st (fun x y r => k (pc + 1) ls (.long (x ^^^ y) :: r) n I L R)) := rfl
theorem il_lxor (len : Nat)  : iLen (.lxor) len = (len = 1) := rfl
theorem sq_lshl (G : cG) (d : Nat) (b : Bool) (mi ci nl : Nat) (rt : Option FieldType) (n1 : Nat) (Q : tQ) (pc : Nat) (ls : List (Option Value)) (st : List Value) (n : Nat) (I : MI) (L : ML) (R : MR) (k : tK)  : stepP G d b mi ci nl rt n1 Q (.lshl) pc ls st n I L R k = (sLI st (fun x y r => k (pc + 1) ls (.long (x <<< (y.toInt64 &&& 63)) :: r) n I L R)) := rfl
theorem il_lshl (len : Nat)  : iLen (.lshl) len = (len = 1) := rfl
theorem sq_lshr (G : cG) (d : Nat) (b : Bool) (mi ci nl : Nat) (rt : Option FieldType) (n1 : Nat) (Q : tQ) (pc : Nat) (ls : List (Option Value)) (st : List Value) (n : Nat) (I : MI) (L : ML) (R : MR) (k : tK)  : stepP G d b mi ci nl rt n1 Q (.lshr) pc ls st n I L R k = (sLI st (fun x y r => k (pc + 1) ls (.long (x >>> (y.toInt64 &&& 63)) :: r) n I L R)) := rfl
theorem il_lshr (len : Nat)  : iLen (.lshr) len = (len = 1) := rfl
theorem sq_lushr (G : cG) (d : Nat) (b : Bool) (mi ci nl : Nat) (rt : Option FieldType) (n1 : Nat) (Q : tQ) (pc : Nat) (ls : List (Option Value)) (st : List Value) (n : Nat) (I : MI) (L : ML) (R : MR) (k : tK)  : stepP G d b mi ci nl rt n1 Q (.lushr) pc ls st n I L R k = (sLI st (fun x y r => k (pc + 1) ls (.long ((x.toUInt64 >>> (y.toInt64.toUInt64 &&& Int64.toUInt64 63)).toInt64) :: r) n I L R)) := rfl
theorem il_lushr (len : Nat)  : iLen (.lushr) len = (len = 1) := rfl
theorem sq_lcmp (G : cG) (d : Nat) (b : Bool) (mi ci nl : Nat) (rt : Option FieldType) (n1 : Nat) (Q : tQ) (pc : Nat) (ls : List (Option Value)) (st : List Value) (n : Nat) (I : MI) (L : ML) (R : MR) (k : tK)  : stepP G d b mi ci nl rt n1 Q (.lcmp) pc ls st n I L R k = (sL2 st (fun x y r => k (pc + 1) ls (.int (lg_cmp x y) :: r) n I L R)) := rfl
theorem il_lcmp (len : Nat)  : iLen (.lcmp) len = (len = 1) := rfl
theorem sq_dup (G : cG) (d : Nat) (b : Bool) (mi ci nl : Nat) (rt : Option FieldType) (n1 : Nat) (Q : tQ) (pc : Nat) (ls : List (Option Value)) (st : List Value) (n : Nat) (I : MI) (L : ML) (R : MR) (k : tK)  : stepP G d b mi ci nl rt n1 Q (.dup) pc ls st n I L R k = (sV1 st (fun v r => v.category = 1 ∧ k (pc + 1) ls (v :: v :: r) n I L R)) := rfl
theorem il_dup (len : Nat)  : iLen (.dup) len = (len = 1) := rfl
theorem sq_pop (G : cG) (d : Nat) (b : Bool) (mi ci nl : Nat) (rt : Option FieldType) (n1 : Nat) (Q : tQ) (pc : Nat) (ls : List (Option Value)) (st : List Value) (n : Nat) (I : MI) (L : ML) (R : MR) (k : tK)  : stepP G d b mi ci nl rt n1 Q (.pop) pc ls st n I L R k = (sV1 st (fun v r => v.category = 1 ∧ k (pc + 1) ls r n I L R)) := rfl
theorem il_pop (len : Nat)  : iLen (.pop) len = (len = 1) := rfl
theorem sq_dup_x1 (G : cG) (d : Nat) (b : Bool) (mi ci nl : Nat) (rt : Option FieldType) (n1 : Nat) (Q : tQ) (pc : Nat) (ls : List (Option Value)) (st : List Value) (n : Nat) (I : MI) (L : ML) (R : MR) (k : tK)  : stepP G d b mi ci nl rt n1 Q (.dup_x1) pc ls st n I L R k = (sV2 st (fun v w r => v.category = 1 ∧ w.category = 1 ∧ k (pc + 1) ls (v :: w :: v :: r) n I L R)) := rfl
theorem il_dup_x1 (len : Nat)  : iLen (.dup_x1) len = (len = 1) := rfl
theorem sq_dup2 (G : cG) (d : Nat) (b : Bool) (mi ci nl : Nat) (rt : Option FieldType) (n1 : Nat) (Q : tQ) (pc : Nat) (ls : List (Option Value)) (st : List Value) (n : Nat) (I : MI) (L : ML) (R : MR) (k : tK)  : stepP G d b mi ci nl rt n1 Q (.dup2) pc ls st n I L R k = (sV2 st (fun v w r => v.category = 1 ∧ w.category = 1 ∧ k (pc + 1) ls (v :: w :: v :: w :: r) n I L R)) := rfl
theorem il_dup2 (len : Nat)  : iLen (.dup2) len = (len = 1) := rfl
theorem sq_ifCond_eq (G : cG) (d : Nat) (b : Bool) (mi ci nl : Nat) (rt : Option FieldType) (n1 : Nat) (Q : tQ) (pc : Nat) (ls : List (Option Value)) (st : List Value) (n : Nat) (I : MI) (L : ML) (R : MR) (k : tK) (off : Int) : stepP G d b mi ci nl rt n1 Q (.ifCond .eq off) pc ls st n I L R k = (sI1 st (fun x r => jK pc off (fun t => (x = 0 → k t ls r n I L R) ∧ (¬ x = 0 → k (pc + 3) ls r n I L R)))) := rfl
theorem il_ifCond_eq (len : Nat) (off : Int) : iLen (.ifCond .eq off) len = (len = 3) := rfl
theorem sq_ifCond_ne (G : cG) (d : Nat) (b : Bool) (mi ci nl : Nat) (rt : Option FieldType) (n1 : Nat) (Q : tQ) (pc : Nat) (ls : List (Option Value)) (st : List Value) (n : Nat) (I : MI) (L : ML) (R : MR) (k : tK) (off : Int) : stepP G d b mi ci nl rt n1 Q (.ifCond .ne off) pc ls st n I L R k = (sI1 st (fun x r => jK pc off (fun t => (¬ x = 0 → k t ls r n I L R) ∧ (x = 0 → k (pc + 3) ls r n I L R)))) := rfl
theorem il_ifCond_ne (len : Nat) (off : Int) : iLen (.ifCond .ne off) len = (len = 3) := rfl
theorem sq_ifCond_lt (G : cG) (d : Nat) (b : Bool) (mi ci nl : Nat) (rt : Option FieldType) (n1 : Nat) (Q : tQ) (pc : Nat) (ls : List (Option Value)) (st : List Value) (n : Nat) (I : MI) (L : ML) (R : MR) (k : tK) (off : Int) : stepP G d b mi ci nl rt n1 Q (.ifCond .lt off) pc ls st n I L R k = (sI1 st (fun x r => jK pc off (fun t => (x < 0 → k t ls r n I L R) ∧ (¬ x < 0 → k (pc + 3) ls r n I L R)))) := rfl
theorem il_ifCond_lt (len : Nat) (off : Int) : iLen (.ifCond .lt off) len = (len = 3) := rfl
theorem sq_ifCond_ge (G : cG) (d : Nat) (b : Bool) (mi ci nl : Nat) (rt : Option FieldType) (n1 : Nat) (Q : tQ) (pc : Nat) (ls : List (Option Value)) (st : List Value) (n : Nat) (I : MI) (L : ML) (R : MR) (k : tK) (off : Int) : stepP G d b mi ci nl rt n1 Q (.ifCond .ge off) pc ls st n I L R k = (sI1 st (fun x r => jK pc off (fun t => (0 ≤ x → k t ls r n I L R) ∧ (¬ 0 ≤ x → k (pc + 3) ls r n I L R)))) := rfl
theorem il_ifCond_ge (len : Nat) (off : Int) : iLen (.ifCond .ge off) len = (len = 3) := rfl
theorem sq_ifCond_gt (G : cG) (d : Nat) (b : Bool) (mi ci nl : Nat) (rt : Option FieldType) (n1 : Nat) (Q : tQ) (pc : Nat) (ls : List (Option Value)) (st : List Value) (n : Nat) (I : MI) (L : ML) (R : MR) (k : tK) (off : Int) : stepP G d b mi ci nl rt n1 Q (.ifCond .gt off) pc ls st n I L R k = (sI1 st (fun x r => jK pc off (fun t => (0 < x → k t ls r n I L R) ∧ (¬ 0 < x → k (pc + 3) ls r n I L R)))) := rfl
theorem il_ifCond_gt (len : Nat) (off : Int) : iLen (.ifCond .gt off) len = (len = 3) := rfl
theorem sq_ifCond_le (G : cG) (d : Nat) (b : Bool) (mi ci nl : Nat) (rt : Option FieldType) (n1 : Nat) (Q : tQ) (pc : Nat) (ls : List (Option Value)) (st : List Value) (n : Nat) (I : MI) (L : ML) (R : MR) (k : tK) (off : Int) : stepP G d b mi ci nl rt n1 Q (.ifCond .le off) pc ls st n I L R k = (sI1 st (fun x r => jK pc off (fun t => (x ≤ 0 → k t ls r n I L R) ∧ (¬ x ≤ 0 → k (pc + 3) ls r n I L R)))) := rfl
theorem il_ifCond_le (len : Nat) (off : Int) : iLen (.ifCond .le off) len = (len = 3) := rfl
theorem sq_if_icmp_eq (G : cG) (d : Nat) (b : Bool) (mi ci nl : Nat) (rt : Option FieldType) (n1 : Nat) (Q : tQ) (pc : Nat) (ls : List (Option Value)) (st : List Value) (n : Nat) (I : MI) (L : ML) (R : MR) (k : tK) (off : Int) : stepP G d b mi ci nl rt n1 Q (.if_icmp .eq off) pc ls st n I L R k = (sI2 st (fun x y r => jK pc off (fun t => (x = y → k t ls r n I L R) ∧ (¬ x = y → k (pc + 3) ls r n I L R)))) := rfl
theorem il_if_icmp_eq (len : Nat) (off : Int) : iLen (.if_icmp .eq off) len = (len = 3) := rfl
theorem sq_if_icmp_ne (G : cG) (d : Nat) (b : Bool) (mi ci nl : Nat) (rt : Option FieldType) (n1 : Nat) (Q : tQ) (pc : Nat) (ls : List (Option Value)) (st : List Value) (n : Nat) (I : MI) (L : ML) (R : MR) (k : tK) (off : Int) : stepP G d b mi ci nl rt n1 Q (.if_icmp .ne off) pc ls st n I L R k = (sI2 st (fun x y r => jK pc off (fun t => (¬ x = y → k t ls r n I L R) ∧ (x = y → k (pc + 3) ls r n I L R)))) := rfl
theorem il_if_icmp_ne (len : Nat) (off : Int) : iLen (.if_icmp .ne off) len = (len = 3) := rfl
theorem sq_if_icmp_lt (G : cG) (d : Nat) (b : Bool) (mi ci nl : Nat) (rt : Option FieldType) (n1 : Nat) (Q : tQ) (pc : Nat) (ls : List (Option Value)) (st : List Value) (n : Nat) (I : MI) (L : ML) (R : MR) (k : tK) (off : Int) : stepP G d b mi ci nl rt n1 Q (.if_icmp .lt off) pc ls st n I L R k = (sI2 st (fun x y r => jK pc off (fun t => (x < y → k t ls r n I L R) ∧ (¬ x < y → k (pc + 3) ls r n I L R)))) := rfl
theorem il_if_icmp_lt (len : Nat) (off : Int) : iLen (.if_icmp .lt off) len = (len = 3) := rfl
theorem sq_if_icmp_ge (G : cG) (d : Nat) (b : Bool) (mi ci nl : Nat) (rt : Option FieldType) (n1 : Nat) (Q : tQ) (pc : Nat) (ls : List (Option Value)) (st : List Value) (n : Nat) (I : MI) (L : ML) (R : MR) (k : tK) (off : Int) : stepP G d b mi ci nl rt n1 Q (.if_icmp .ge off) pc ls st n I L R k = (sI2 st (fun x y r => jK pc off (fun t => (y ≤ x → k t ls r n I L R) ∧ (¬ y ≤ x → k (pc + 3) ls r n I L R)))) := rfl
theorem il_if_icmp_ge (len : Nat) (off : Int) : iLen (.if_icmp .ge off) len = (len = 3) := rfl
theorem sq_if_icmp_gt (G : cG) (d : Nat) (b : Bool) (mi ci nl : Nat) (rt : Option FieldType) (n1 : Nat) (Q : tQ) (pc : Nat) (ls : List (Option Value)) (st : List Value) (n : Nat) (I : MI) (L : ML) (R : MR) (k : tK) (off : Int) : stepP G d b mi ci nl rt n1 Q (.if_icmp .gt off) pc ls st n I L R k = (sI2 st (fun x y r => jK pc off (fun t => (y < x → k t ls r n I L R) ∧ (¬ y < x → k (pc + 3) ls r n I L R)))) := rfl
theorem il_if_icmp_gt (len : Nat) (off : Int) : iLen (.if_icmp .gt off) len = (len = 3) := rfl
theorem sq_if_icmp_le (G : cG) (d : Nat) (b : Bool) (mi ci nl : Nat) (rt : Option FieldType) (n1 : Nat) (Q : tQ) (pc : Nat) (ls : List (Option Value)) (st : List Value) (n : Nat) (I : MI) (L : ML) (R : MR) (k : tK) (off : Int) : stepP G d b mi ci nl rt n1 Q (.if_icmp .le off) pc ls st n I L R k = (sI2 st (fun x y r => jK pc off (fun t => (x ≤ y → k t ls r n I L R) ∧ (¬ x ≤ y → k (pc + 3) ls r n I L R)))) := rfl
theorem il_if_icmp_le (len : Nat) (off : Int) : iLen (.if_icmp .le off) len = (len = 3) := rfl
theorem sq_goto (G : cG) (d : Nat) (b : Bool) (mi ci nl : Nat) (rt : Option FieldType) (n1 : Nat) (Q : tQ) (pc : Nat) (ls : List (Option Value)) (st : List Value) (n : Nat) (I : MI) (L : ML) (R : MR) (k : tK) (off : Int) : stepP G d b mi ci nl rt n1 Q (.goto off) pc ls st n I L R k = (jK pc off (fun t => k t ls st n I L R)) := rfl
theorem il_goto (len : Nat) (off : Int) : iLen (.goto off) len = (len = 3) := rfl
theorem sq_tableswitch (G : cG) (d : Nat) (b : Bool) (mi ci nl : Nat) (rt : Option FieldType) (n1 : Nat) (Q : tQ) (pc : Nat) (ls : List (Option Value)) (st : List Value) (n : Nat) (I : MI) (L : ML) (R : MR) (k : tK) (df : Int) (lo : Int) (hi : Int) (offs : Array Int) : stepP G d b mi ci nl rt n1 Q (.tableswitch df lo hi offs) pc ls st n I L R k = (sI1 st (fun x r => (-2147483648 ≤ lo ∧ hi ≤ 2147483647 ∧ (hi - lo + 1).toNat = offs.size ∧ lo ≤ hi) ∧ swL x lo offs.toList (fun off => jK pc off (fun t => k t ls r n I L R)) ∧ ((x < Int32.ofInt lo ∨ Int32.ofInt hi < x) → jK pc df (fun t => k t ls r n I L R)))) := rfl
theorem il_tableswitch (len : Nat) (df : Int) (lo : Int) (hi : Int) (offs : Array Int) : iLen (.tableswitch df lo hi offs) len = (True) := rfl
theorem sq_lookupswitch (G : cG) (d : Nat) (b : Bool) (mi ci nl : Nat) (rt : Option FieldType) (n1 : Nat) (Q : tQ) (pc : Nat) (ls : List (Option Value)) (st : List Value) (n : Nat) (I : MI) (L : ML) (R : MR) (k : tK) (df : Int) (ps : Array (Int × Int)) : stepP G d b mi ci nl rt n1 Q (.lookupswitch df ps) pc ls st n I L R k = (sI1 st (fun x r => ((ps.toList.zip (ps.toList.drop 1)).all (fun (a, next) => a.1 < next.1) = true ∧ ps.toList.all (fun q => decide (-2147483648 ≤ q.1 ∧ q.1 ≤ 2147483647)) = true) ∧ lkL x ps.toList (jK pc df (fun t => k t ls r n I L R)) (fun off => jK pc off (fun t => k t ls r n I L R)))) := rfl
theorem il_lookupswitch (len : Nat) (df : Int) (ps : Array (Int × Int)) : iLen (.lookupswitch df ps) len = (True) := rfl
theorem sq_getfield (G : cG) (d : Nat) (b : Bool) (mi ci nl : Nat) (rt : Option FieldType) (n1 : Nat) (Q : tQ) (pc : Nat) (ls : List (Option Value)) (st : List Value) (n : Nat) (I : MI) (L : ML) (R : MR) (k : tK) (ix : Nat) : stepP G d b mi ci nl rt n1 Q (.getfield ix) pc ls st n I L R k = (sR1 st (fun a r => match fr ci ix with | some (c2, k2) => a < n ∧ kK a = (10, c2) ∧ k (pc + 3) ls ((if fK c2 k2 = 2 then vR (R a k2) else .int (I a k2)) :: r) n I L R | none => False)) := rfl
theorem il_getfield (len : Nat) (ix : Nat) : iLen (.getfield ix) len = (len = 3) := rfl
theorem sq_putfield (G : cG) (d : Nat) (b : Bool) (mi ci nl : Nat) (rt : Option FieldType) (n1 : Nat) (Q : tQ) (pc : Nat) (ls : List (Option Value)) (st : List Value) (n : Nat) (I : MI) (L : ML) (R : MR) (k : tK) (ix : Nat) : stepP G d b mi ci nl rt n1 Q (.putfield ix) pc ls st n I L R k = (match fr ci ix with | some (c2, k2) => sP st (fun x a r => a < n ∧ kK a = (10, c2) ∧ fI c2 k2 x ∧ k (pc + 3) ls r n (u2 I a k2 x) L R) (fun b a r => a < n ∧ b < n ∧ kK a = (10, c2) ∧ pRok mi c2 k2 ∧ k (pc + 3) ls r n I L (u2 R a k2 (some b))) | none => False) := rfl
theorem il_putfield (len : Nat) (ix : Nat) : iLen (.putfield ix) len = (len = 3) := rfl
theorem sq_iaload (G : cG) (d : Nat) (b : Bool) (mi ci nl : Nat) (rt : Option FieldType) (n1 : Nat) (Q : tQ) (pc : Nat) (ls : List (Option Value)) (st : List Value) (n : Nat) (I : MI) (L : ML) (R : MR) (k : tK)  : stepP G d b mi ci nl rt n1 Q (.iaload) pc ls st n I L R k = (sIR st (fun j a r => if (kK a).1 = 7 then 1000 ≤ a ∧ a < 1003 ∧ vp_in j (kK a).2 ∧ k (pc + 1) ls (.int (sI a j.toNatClampNeg) :: r) n I L R else a < n ∧ (kK a).1 = 0 ∧ vp_in j (kK a).2 ∧ k (pc + 1) ls (.int (I a j.toNatClampNeg) :: r) n I L R)) := rfl
theorem il_iaload (len : Nat)  : iLen (.iaload) len = (len = 1) := rfl
theorem sq_baload (G : cG) (d : Nat) (b : Bool) (mi ci nl : Nat) (rt : Option FieldType) (n1 : Nat) (Q : tQ) (pc : Nat) (ls : List (Option Value)) (st : List Value) (n : Nat) (I : MI) (L : ML) (R : MR) (k : tK)  : stepP G d b mi ci nl rt n1 Q (.baload) pc ls st n I L R k = (sIR st (fun j a r => a < n ∧ ((kK a).1 = 1 ∨ (kK a).1 = 2) ∧ vp_in j (kK a).2 ∧ k (pc + 1) ls (.int (I a j.toNatClampNeg) :: r) n I L R)) := rfl
theorem il_baload (len : Nat)  : iLen (.baload) len = (len = 1) := rfl
theorem sq_laload (G : cG) (d : Nat) (b : Bool) (mi ci nl : Nat) (rt : Option FieldType) (n1 : Nat) (Q : tQ) (pc : Nat) (ls : List (Option Value)) (st : List Value) (n : Nat) (I : MI) (L : ML) (R : MR) (k : tK)  : stepP G d b mi ci nl rt n1 Q (.laload) pc ls st n I L R k = (sIR st (fun j a r => a < n ∧ (kK a).1 = 3 ∧ vp_in j (kK a).2 ∧ k (pc + 1) ls (.long (L a j.toNatClampNeg) :: r) n I L R)) := rfl
theorem il_laload (len : Nat)  : iLen (.laload) len = (len = 1) := rfl
theorem sq_aaload (G : cG) (d : Nat) (b : Bool) (mi ci nl : Nat) (rt : Option FieldType) (n1 : Nat) (Q : tQ) (pc : Nat) (ls : List (Option Value)) (st : List Value) (n : Nat) (I : MI) (L : ML) (R : MR) (k : tK)  : stepP G d b mi ci nl rt n1 Q (.aaload) pc ls st n I L R k = (sIR st (fun j a r => a < n ∧ (4 ≤ (kK a).1 ∧ (kK a).1 ≤ 6) ∧ vp_in j (kK a).2 ∧ k (pc + 1) ls (vR (R a j.toNatClampNeg) :: r) n I L R)) := rfl
theorem il_aaload (len : Nat)  : iLen (.aaload) len = (len = 1) := rfl
theorem sq_arraylength (G : cG) (d : Nat) (b : Bool) (mi ci nl : Nat) (rt : Option FieldType) (n1 : Nat) (Q : tQ) (pc : Nat) (ls : List (Option Value)) (st : List Value) (n : Nat) (I : MI) (L : ML) (R : MR) (k : tK)  : stepP G d b mi ci nl rt n1 Q (.arraylength) pc ls st n I L R k = (sR1 st (fun a r => if (kK a).1 = 7 then 1000 ≤ a ∧ a < 1003 ∧ k (pc + 1) ls (.int (Int32.ofNat (kK a).2) :: r) n I L R else a < n ∧ (kK a).1 < 7 ∧ k (pc + 1) ls (.int (Int32.ofNat (kK a).2) :: r) n I L R)) := rfl
theorem il_arraylength (len : Nat)  : iLen (.arraylength) len = (len = 1) := rfl
theorem sq_iastore (G : cG) (d : Nat) (b : Bool) (mi ci nl : Nat) (rt : Option FieldType) (n1 : Nat) (Q : tQ) (pc : Nat) (ls : List (Option Value)) (st : List Value) (n : Nat) (I : MI) (L : ML) (R : MR) (k : tK)  : stepP G d b mi ci nl rt n1 Q (.iastore) pc ls st n I L R k = (sIIR st (fun x j a r => a < n ∧ (kK a).1 = 0 ∧ vp_in j (kK a).2 ∧ k (pc + 1) ls r n (u2 I a j.toNatClampNeg x) L R)) := rfl
theorem il_iastore (len : Nat)  : iLen (.iastore) len = (len = 1) := rfl
theorem sq_bastore (G : cG) (d : Nat) (b : Bool) (mi ci nl : Nat) (rt : Option FieldType) (n1 : Nat) (Q : tQ) (pc : Nat) (ls : List (Option Value)) (st : List Value) (n : Nat) (I : MI) (L : ML) (R : MR) (k : tK)  : stepP G d b mi ci nl rt n1 Q (.bastore) pc ls st n I L R k = (sIIR st (fun x j a r => a < n ∧ ((kK a).1 = 1 ∨ (kK a).1 = 2) ∧ vp_in j (kK a).2 ∧ k (pc + 1) ls r n (u2 I a j.toNatClampNeg (if (kK a).1 = 1 then vp_nar .byte x else vp_nar .boolean x)) L R)) := rfl
theorem il_bastore (len : Nat)  : iLen (.bastore) len = (len = 1) := rfl
theorem sq_lastore (G : cG) (d : Nat) (b : Bool) (mi ci nl : Nat) (rt : Option FieldType) (n1 : Nat) (Q : tQ) (pc : Nat) (ls : List (Option Value)) (st : List Value) (n : Nat) (I : MI) (L : ML) (R : MR) (k : tK)  : stepP G d b mi ci nl rt n1 Q (.lastore) pc ls st n I L R k = (sLIR st (fun x j a r => a < n ∧ (kK a).1 = 3 ∧ vp_in j (kK a).2 ∧ k (pc + 1) ls r n I (u2 L a j.toNatClampNeg x) R)) := rfl
theorem il_lastore (len : Nat)  : iLen (.lastore) len = (len = 1) := rfl
theorem sq_getstatic (G : cG) (d : Nat) (b : Bool) (mi ci nl : Nat) (rt : Option FieldType) (n1 : Nat) (Q : tQ) (pc : Nat) (ls : List (Option Value)) (st : List Value) (n : Nat) (I : MI) (L : ML) (R : MR) (k : tK) (ix : Nat) : stepP G d b mi ci nl rt n1 Q (.getstatic ix) pc ls st n I L R k = (match gr ci ix with | some a => k (pc + 3) ls (.ref a :: st) n I L R | none => False) := rfl
theorem il_getstatic (len : Nat) (ix : Nat) : iLen (.getstatic ix) len = (len = 3) := rfl
theorem sq_ldc2_w (G : cG) (d : Nat) (b : Bool) (mi ci nl : Nat) (rt : Option FieldType) (n1 : Nat) (Q : tQ) (pc : Nat) (ls : List (Option Value)) (st : List Value) (n : Nat) (I : MI) (L : ML) (R : MR) (k : tK) (ix : Nat) : stepP G d b mi ci nl rt n1 Q (.ldc2_w ix) pc ls st n I L R k = (match kl ci ix with | some x => k (pc + 3) ls (.long x :: st) n I L R | none => False) := rfl
theorem il_ldc2_w (len : Nat) (ix : Nat) : iLen (.ldc2_w ix) len = (len = 3) := rfl
theorem sq_ldc_w (G : cG) (d : Nat) (b : Bool) (mi ci nl : Nat) (rt : Option FieldType) (n1 : Nat) (Q : tQ) (pc : Nat) (ls : List (Option Value)) (st : List Value) (n : Nat) (I : MI) (L : ML) (R : MR) (k : tK) (ix : Nat) : stepP G d b mi ci nl rt n1 Q (.ldc_w ix) pc ls st n I L R k = (match ki ci ix with | some x => k (pc + 3) ls (.int x :: st) n I L R | none => False) := rfl
theorem il_ldc_w (len : Nat) (ix : Nat) : iLen (.ldc_w ix) len = (len = 3) := rfl
theorem sq_ldc (G : cG) (d : Nat) (b : Bool) (mi ci nl : Nat) (rt : Option FieldType) (n1 : Nat) (Q : tQ) (pc : Nat) (ls : List (Option Value)) (st : List Value) (n : Nat) (I : MI) (L : ML) (R : MR) (k : tK) (ix : Nat) : stepP G d b mi ci nl rt n1 Q (.ldc ix) pc ls st n I L R k = (match ks ci ix with | some a => k (pc + 2) ls (.ref a :: st) n I L R | none => False) := rfl
theorem il_ldc (len : Nat) (ix : Nat) : iLen (.ldc ix) len = (len = 2) := rfl
theorem sq_invokevirtual (G : cG) (d : Nat) (b : Bool) (mi ci nl : Nat) (rt : Option FieldType) (n1 : Nat) (Q : tQ) (pc : Nat) (ls : List (Option Value)) (st : List Value) (n : Nat) (I : MI) (L : ML) (R : MR) (k : tK) (ix : Nat) : stepP G d b mi ci nl rt n1 Q (.invokevirtual ix) pc ls st n I L R k = (callP G d b ci n1 ix 0 pc ls st n I L R k) := rfl
theorem il_invokevirtual (len : Nat) (ix : Nat) : iLen (.invokevirtual ix) len = (len = 3) := rfl
theorem sq_invokestatic (G : cG) (d : Nat) (b : Bool) (mi ci nl : Nat) (rt : Option FieldType) (n1 : Nat) (Q : tQ) (pc : Nat) (ls : List (Option Value)) (st : List Value) (n : Nat) (I : MI) (L : ML) (R : MR) (k : tK) (ix : Nat) : stepP G d b mi ci nl rt n1 Q (.invokestatic ix) pc ls st n I L R k = (callP G d b ci n1 ix 1 pc ls st n I L R k) := rfl
theorem il_invokestatic (len : Nat) (ix : Nat) : iLen (.invokestatic ix) len = (len = 3) := rfl
theorem sq_invokespecial (G : cG) (d : Nat) (b : Bool) (mi ci nl : Nat) (rt : Option FieldType) (n1 : Nat) (Q : tQ) (pc : Nat) (ls : List (Option Value)) (st : List Value) (n : Nat) (I : MI) (L : ML) (R : MR) (k : tK) (ix : Nat) : stepP G d b mi ci nl rt n1 Q (.invokespecial ix) pc ls st n I L R k = (callP G d b ci n1 ix 2 pc ls st n I L R k) := rfl
theorem il_invokespecial (len : Nat) (ix : Nat) : iLen (.invokespecial ix) len = (len = 3) := rfl
theorem sq_return_ (G : cG) (d : Nat) (b : Bool) (mi ci nl : Nat) (rt : Option FieldType) (n1 : Nat) (Q : tQ) (pc : Nat) (ls : List (Option Value)) (st : List Value) (n : Nat) (I : MI) (L : ML) (R : MR) (k : tK)  : stepP G d b mi ci nl rt n1 Q (.return_) pc ls st n I L R k = (retP rt n1 Q .return_ st n I L R) := rfl
theorem il_return_ (len : Nat)  : iLen (.return_) len = (len = 1) := rfl
theorem sq_ireturn (G : cG) (d : Nat) (b : Bool) (mi ci nl : Nat) (rt : Option FieldType) (n1 : Nat) (Q : tQ) (pc : Nat) (ls : List (Option Value)) (st : List Value) (n : Nat) (I : MI) (L : ML) (R : MR) (k : tK)  : stepP G d b mi ci nl rt n1 Q (.ireturn) pc ls st n I L R k = (retP rt n1 Q .ireturn st n I L R) := rfl
theorem il_ireturn (len : Nat)  : iLen (.ireturn) len = (len = 1) := rfl
theorem sq_lreturn (G : cG) (d : Nat) (b : Bool) (mi ci nl : Nat) (rt : Option FieldType) (n1 : Nat) (Q : tQ) (pc : Nat) (ls : List (Option Value)) (st : List Value) (n : Nat) (I : MI) (L : ML) (R : MR) (k : tK)  : stepP G d b mi ci nl rt n1 Q (.lreturn) pc ls st n I L R k = (retP rt n1 Q .lreturn st n I L R) := rfl
theorem il_lreturn (len : Nat)  : iLen (.lreturn) len = (len = 1) := rfl
theorem sq_multianewarray (G : cG) (d : Nat) (b : Bool) (mi ci nl : Nat) (rt : Option FieldType) (n1 : Nat) (Q : tQ) (pc : Nat) (ls : List (Option Value)) (st : List Value) (n : Nat) (I : MI) (L : ML) (R : MR) (k : tK) (ix : Nat) (dm : Nat) : stepP G d b mi ci nl rt n1 Q (.multianewarray ix dm) pc ls st n I L R k = (match st with | .int y :: .int x :: r => dm = 2 ∧ nr ci ix = some 106 ∧ ¬ x < 0 ∧ ¬ y < 0 ∧ x.toNatClampNeg ≤ 100 ∧ y.toNatClampNeg ≤ 4000 ∧ kK n = (6, x.toNatClampNeg) ∧ (∀ i, i < x.toNatClampNeg → kK (n + 1 + i) = (0, y.toNatClampNeg)) ∧ n + 1 + x.toNatClampNeg ≤ n1 ∧ n + 1 + x.toNatClampNeg ≤ 1000 ∧ (∀ i, i < x.toNatClampNeg → ∀ j, I (n + 1 + i) j = 0) ∧ (∀ j, R n j = none) ∧ k (pc + 4) ls (.ref n :: r) (n + 1 + x.toNatClampNeg) I L (uM R n x.toNatClampNeg) | _ => False) := rfl
theorem il_multianewarray (len : Nat) (ix : Nat) (dm : Nat) : iLen (.multianewarray ix dm) len = (len = 4) := rfl
theorem sq_new (G : cG) (d : Nat) (b : Bool) (mi ci nl : Nat) (rt : Option FieldType) (n1 : Nat) (Q : tQ) (pc : Nat) (ls : List (Option Value)) (st : List Value) (n : Nat) (I : MI) (L : ML) (R : MR) (k : tK) (ix : Nat) : stepP G d b mi ci nl rt n1 Q (.new ix) pc ls st n I L R k = (match nr ci ix with | some c2 => c2 < 13 ∧ kK n = (10, c2) ∧ n + 1 ≤ n1 ∧ n + 1 ≤ 1000 ∧ (∀ j, I n j = 0) ∧ (∀ j, R n j = none) ∧ k (pc + 3) ls (.ref n :: st) (n + 1) I L R | none => False) := rfl
theorem il_new (len : Nat) (ix : Nat) : iLen (.new ix) len = (len = 3) := rfl
theorem sq_newarray (G : cG) (d : Nat) (b : Bool) (mi ci nl : Nat) (rt : Option FieldType) (n1 : Nat) (Q : tQ) (pc : Nat) (ls : List (Option Value)) (st : List Value) (n : Nat) (I : MI) (L : ML) (R : MR) (k : tK) (ty : ArrayType) : stepP G d b mi ci nl rt n1 Q (.newarray ty) pc ls st n I L R k = (sI1 st (fun x r => aTag ty < 4 ∧ ¬ x < 0 ∧ x.toNatClampNeg ≤ 4000 ∧ kK n = (aTag ty, x.toNatClampNeg) ∧ n + 1 ≤ n1 ∧ n + 1 ≤ 1000 ∧ (∀ j, I n j = 0) ∧ (∀ j, L n j = 0) ∧ k (pc + 2) ls (.ref n :: r) (n + 1) I L R)) := rfl
theorem il_newarray (len : Nat) (ty : ArrayType) : iLen (.newarray ty) len = (len = 2) := rfl
theorem sq_anewarray (G : cG) (d : Nat) (b : Bool) (mi ci nl : Nat) (rt : Option FieldType) (n1 : Nat) (Q : tQ) (pc : Nat) (ls : List (Option Value)) (st : List Value) (n : Nat) (I : MI) (L : ML) (R : MR) (k : tK) (ix : Nat) : stepP G d b mi ci nl rt n1 Q (.anewarray ix) pc ls st n I L R k = (sI1 st (fun x r => (nr ci ix = some 104 ∧ (kK n).1 = 4 ∨ nr ci ix = some 105 ∧ (kK n).1 = 5) ∧ ¬ x < 0 ∧ x.toNatClampNeg ≤ 4000 ∧ (kK n).2 = x.toNatClampNeg ∧ n + 1 ≤ n1 ∧ n + 1 ≤ 1000 ∧ (∀ j, R n j = none) ∧ k (pc + 3) ls (.ref n :: r) (n + 1) I L R)) := rfl
theorem il_anewarray (len : Nat) (ix : Nat) : iLen (.anewarray ix) len = (len = 3) := rfl
theorem sq_aastore (G : cG) (d : Nat) (b : Bool) (mi ci nl : Nat) (rt : Option FieldType) (n1 : Nat) (Q : tQ) (pc : Nat) (ls : List (Option Value)) (st : List Value) (n : Nat) (I : MI) (L : ML) (R : MR) (k : tK)  : stepP G d b mi ci nl rt n1 Q (.aastore) pc ls st n I L R k = (match st with | .ref b :: .int j :: .ref a :: r => a < n ∧ b < n ∧ ((kK a).1 = 4 ∧ kK b = (10, 2) ∨ (kK a).1 = 5 ∧ kK b = (10, 7)) ∧ vp_in j (kK a).2 ∧ k (pc + 1) ls r n I L (u2 R a j.toNatClampNeg (some b)) | _ => False) := rfl
theorem il_aastore (len : Nat)  : iLen (.aastore) len = (len = 1) := rfl

def inC : List Nat → Nat → Bool
  | [], _ => false
  | a :: l, x => if a = x then true else inC l x
def gW (G : cG) (d mi n1 : Nat) (Q : tQ) (cuts : List Nat) (w : tK) : tK := fun pc ls st n I L R => if inC cuts pc = true then V G (d + 1) mi n1 pc ls st n I L R Q else w pc ls st n I L R
def wpB (G : cG) (d : Nat) (b : Bool) (mi : Nat) (cc : ByteArray) (ci nl : Nat) (rt : Option FieldType) (n1 : Nat) (Q : tQ) (cuts : List Nat) (w : tK) : tK := fun pc ls st n I L R => match decode cc pc with
  | .ok (i, len) => n ≤ n1 ∧ iLen i len ∧ stepP G d b mi ci nl rt n1 Q i pc ls st n I L R (gW G d mi n1 Q cuts w)
  | .error _ => False
noncomputable def wp (G : cG) (d : Nat) (b : Bool) (mi : Nat) (cc : ByteArray) (ci nl : Nat) (rt : Option FieldType) (n1 : Nat) (Q : tQ) (cuts : List Nat) (f : Nat) : tK :=
  Nat.rec (motive := fun _ => tK) (fun pc ls st n I L R => V G (d + 1) mi n1 pc ls st n I L R Q) (fun _ w => wpB G d b mi cc ci nl rt n1 Q cuts w) f
theorem wp_0 {G : cG} {d : Nat} {b : Bool} {mi : Nat} {cc : ByteArray} {ci nl : Nat} {rt : Option FieldType} {n1 : Nat} {Q : tQ} {cuts : List Nat} {pc : Nat} {ls : List (Option Value)} {st : List Value} {n : Nat} {I : MI} {L : ML} {R : MR} : wp G d b mi cc ci nl rt n1 Q cuts 0 pc ls st n I L R = V G (d + 1) mi n1 pc ls st n I L R Q := rfl
theorem wp_s {G : cG} {d : Nat} {b : Bool} {mi : Nat} {cc : ByteArray} {ci nl : Nat} {rt : Option FieldType} {n1 : Nat} {Q : tQ} {cuts : List Nat} {f pc : Nat} {ls : List (Option Value)} {st : List Value} {n : Nat} {I : MI} {L : ML} {R : MR} : wp G d b mi cc ci nl rt n1 Q cuts (f + 1) pc ls st n I L R = wpB G d b mi cc ci nl rt n1 Q cuts (wp G d b mi cc ci nl rt n1 Q cuts f) pc ls st n I L R := rfl
theorem V_wp {G : cG} {d : Nat} {b : Bool} {mi n1 : Nat} {Q : tQ} (cuts : List Nat) (hm : mi < 286) (hpF : K_pF G d b) : ∀ (f : Nat) {pc : Nat} {ls : List (Option Value)} {st : List Value} {n : Nat} {I : MI} {L : ML} {R : MR}, wp G d b mi (mcc mi) (mci mi) (mnl mi) (mrt mi) n1 Q cuts f pc ls st n I L R → V G (d + 1) mi n1 pc ls st n I L R Q := by
  intro f
  induction f with
  | zero => intro pc ls st n I L R h; exact h
  | succ f ih =>
    intro pc ls st n I L R h
    rw [wp_s] at h
    unfold wpB at h
    cases hd : decode (mcc mi) pc with
    | error x => rw [hd] at h; exact h.elim
    | ok q =>
      obtain ⟨i, len⟩ := q
      rw [hd] at h
      obtain ⟨h1, h2, h3⟩ := h
      intro p e s m args below meth c n0 F hs hle
      have hrm : RmOK (rmV (d + 1) (n1 - n0) (szL n1 - szL n0)) d n0 n1 := ⟨Nat.le_refl _, by show 40 * d + 40 ≤ 40 * (d + 1); omega, Nat.le_refl _, Nat.le_refl _⟩
      refine stepP_sound F hm rfl rfl hrm hpF h1 (fun i pc ls st n I L R hd hr => ?_) hd h2 h3 (fun pc' ls' st' n' I' L' R' hk => ?_)
      · unfold retP at hr
        split at hr
        · exact V_ret hd hr.2.1 hr.1 hr.2.2 p e s m args below meth c n0 F hs hle
        · exact V_iret hd hr.2.1 hr.1 hr.2.2 p e s m args below meth c n0 F hs hle
        · exact V_lret hd hr.2.1 hr.1 hr.2.2 p e s m args below meth c n0 F hs hle
        · exact hr.elim
      · unfold gW at hk
        split at hk
        · exact hk p e s m args below meth c n0 F hs hle
        · exact ih hk p e s m args below meth c n0 F hs hle
theorem CK_go {G : cG} {d : Nat} {b : Bool} {mj : Nat} {as : List Value} {n : Nat} {I : MI} {L : ML} {R : MR} {K : tQ} (f : Nat) (cuts : List Nat) (hm : mj < 286) (hpF : K_pF G d b) (h : wp G d b mj (mcc mj) (mci mj) (mnl mj) (mrt mj) (n + mal mj) K cuts f 0 (eL as (mnl mj)) [] n I L R) : CK G (d + 1) mj as n I L R K := V_wp cuts hm hpF f h
theorem V_weak {G : cG} {d mi n1 pc : Nat} {ls ls' : List (Option Value)} {st : List Value} {n : Nat} {I : MI} {L : ML} {R : MR} {Q : tQ} (h : V G d mi n1 pc ls' st n I L R Q) (hw : ∀ i v, lG ls' i = some v → lG ls i = some v) : V G d mi n1 pc ls st n I L R Q :=
  fun p e s m args below meth c n0 F hs hle => (h p e s m args below meth c n0 F hs hle).weak hw
/-- fewer locals known -/
def leL : List (Option Value) → List (Option Value) → Prop
  | [], _ => True
  | none :: l, _ :: l' => leL l l'
  | some v :: l, some w :: l' => v = w ∧ leL l l'
  | none :: l, [] => leL l []
  | some _ :: _, _ => False
theorem leL_e : ∀ {ls' ls : List (Option Value)}, leL ls' ls → ∀ i v, lG ls' i = some v → lG ls i = some v := by
  intro ls'
  induction ls' with
  | nil => intro ls h i v q; cases q
  | cons a l ih =>
    intro ls h i v q
    cases a with
    | none =>
      cases i with
      | zero => cases q
      | succ i =>
        cases ls with
        | nil =>
          have := ih (ls := []) h i v q
          cases this
        | cons x l' => exact ih (ls := l') h i v q
    | some w =>
      cases ls with
      | nil => exact h.elim
      | cons x l' =>
        cases x with
        | none => exact h.elim
        | some y =>
          obtain ⟨rfl, h⟩ := h
          cases i with
          | zero => exact q
          | succ i => exact ih h i v q
theorem pF_no (G : cG) (d : Nat) : K_pF G d false := fun h => by cases h

theorem i8_m100 : i8 (-100) = (-100) := by decide +kernel
theorem i8_m42 : i8 (-42) = (-42) := by decide +kernel
theorem i8_m14 : i8 (-14) = (-14) := by decide +kernel
theorem i8_m13 : i8 (-13) = (-13) := by decide +kernel
theorem i8_m12 : i8 (-12) = (-12) := by decide +kernel
theorem i8_m11 : i8 (-11) = (-11) := by decide +kernel
theorem i8_m10 : i8 (-10) = (-10) := by decide +kernel
theorem i8_m9 : i8 (-9) = (-9) := by decide +kernel
theorem i8_m8 : i8 (-8) = (-8) := by decide +kernel
theorem i8_m7 : i8 (-7) = (-7) := by decide +kernel
theorem i8_m6 : i8 (-6) = (-6) := by decide +kernel
theorem i8_m5 : i8 (-5) = (-5) := by decide +kernel
theorem i8_m4 : i8 (-4) = (-4) := by decide +kernel
theorem i8_m3 : i8 (-3) = (-3) := by decide +kernel
theorem i8_m2 : i8 (-2) = (-2) := by decide +kernel
theorem i8_6 : i8 6 = 6 := by decide +kernel
theorem i8_7 : i8 7 = 7 := by decide +kernel
theorem i8_8 : i8 8 = 8 := by decide +kernel
theorem i8_9 : i8 9 = 9 := by decide +kernel
theorem i8_10 : i8 10 = 10 := by decide +kernel
theorem i8_11 : i8 11 = 11 := by decide +kernel
theorem i8_12 : i8 12 = 12 := by decide +kernel
theorem i8_13 : i8 13 = 13 := by decide +kernel
theorem i8_16 : i8 16 = 16 := by decide +kernel
theorem i8_19 : i8 19 = 19 := by decide +kernel
theorem i8_20 : i8 20 = 20 := by decide +kernel
theorem i8_24 : i8 24 = 24 := by decide +kernel
theorem i8_32 : i8 32 = 32 := by decide +kernel
theorem i8_40 : i8 40 = 40 := by decide +kernel
theorem i8_41 : i8 41 = 41 := by decide +kernel
theorem i8_42 : i8 42 = 42 := by decide +kernel
theorem i8_43 : i8 43 = 43 := by decide +kernel
theorem i8_45 : i8 45 = 45 := by decide +kernel
theorem i8_48 : i8 48 = 48 := by decide +kernel
theorem i8_57 : i8 57 = 57 := by decide +kernel
theorem i8_59 : i8 59 = 59 := by decide +kernel
theorem i8_60 : i8 60 = 60 := by decide +kernel
theorem i8_61 : i8 61 = 61 := by decide +kernel
theorem i8_63 : i8 63 = 63 := by decide +kernel
theorem i8_64 : i8 64 = 64 := by decide +kernel
theorem i8_96 : i8 96 = 96 := by decide +kernel
theorem i8_97 : i8 97 = 97 := by decide +kernel
theorem i8_99 : i8 99 = 99 := by decide +kernel
theorem i8_122 : i8 122 = 122 := by decide +kernel
theorem i8_127 : i8 127 = 127 := by decide +kernel
theorem i16_128 : i16 128 = 128 := by decide +kernel
theorem i16_160 : i16 160 = 160 := by decide +kernel
theorem i16_161 : i16 161 = 161 := by decide +kernel
theorem i16_162 : i16 162 = 162 := by decide +kernel
theorem i16_255 : i16 255 = 255 := by decide +kernel
theorem i16_999 : i16 999 = 999 := by decide +kernel
theorem i16_1920 : i16 1920 = 1920 := by decide +kernel
theorem i16_9999 : i16 9999 = 9999 := by decide +kernel
theorem i16_10000 : i16 10000 = 10000 := by decide +kernel
theorem i16_10001 : i16 10001 = 10001 := by decide +kernel
theorem i16_10002 : i16 10002 = 10002 := by decide +kernel
theorem i16_10005 : i16 10005 = 10005 := by decide +kernel
theorem c32_m7 : Int32.ofInt (-7) = (-7) := by decide +kernel
theorem c32_m6 : Int32.ofInt (-6) = (-6) := by decide +kernel
theorem c32_m5 : Int32.ofInt (-5) = (-5) := by decide +kernel
theorem c32_m4 : Int32.ofInt (-4) = (-4) := by decide +kernel
theorem c32_m3 : Int32.ofInt (-3) = (-3) := by decide +kernel
theorem c32_m2 : Int32.ofInt (-2) = (-2) := by decide +kernel
theorem c32_m1 : Int32.ofInt (-1) = (-1) := by decide +kernel
theorem c32_0 : Int32.ofInt 0 = 0 := by decide +kernel
theorem c32_1 : Int32.ofInt 1 = 1 := by decide +kernel
theorem c32_2 : Int32.ofInt 2 = 2 := by decide +kernel
theorem c32_3 : Int32.ofInt 3 = 3 := by decide +kernel
theorem c32_4 : Int32.ofInt 4 = 4 := by decide +kernel
theorem c32_5 : Int32.ofInt 5 = 5 := by decide +kernel
theorem c32_6 : Int32.ofInt 6 = 6 := by decide +kernel
theorem c32_7 : Int32.ofInt 7 = 7 := by decide +kernel
theorem c32_8 : Int32.ofInt 8 = 8 := by decide +kernel
theorem c32_9 : Int32.ofInt 9 = 9 := by decide +kernel
theorem c32_10 : Int32.ofInt 10 = 10 := by decide +kernel
theorem c32_11 : Int32.ofInt 11 = 11 := by decide +kernel
theorem c32_12 : Int32.ofInt 12 = 12 := by decide +kernel
theorem c32_13 : Int32.ofInt 13 = 13 := by decide +kernel
theorem c32_14 : Int32.ofInt 14 = 14 := by decide +kernel
theorem c32_15 : Int32.ofInt 15 = 15 := by decide +kernel
theorem c32_16 : Int32.ofInt 16 = 16 := by decide +kernel
theorem c32_17 : Int32.ofInt 17 = 17 := by decide +kernel
theorem c32_18 : Int32.ofInt 18 = 18 := by decide +kernel
theorem c32_19 : Int32.ofInt 19 = 19 := by decide +kernel
theorem c32_20 : Int32.ofInt 20 = 20 := by decide +kernel
theorem c32_21 : Int32.ofInt 21 = 21 := by decide +kernel
theorem c32_22 : Int32.ofInt 22 = 22 := by decide +kernel
theorem c32_23 : Int32.ofInt 23 = 23 := by decide +kernel
theorem c32_24 : Int32.ofInt 24 = 24 := by decide +kernel
theorem c32_25 : Int32.ofInt 25 = 25 := by decide +kernel
theorem c32_26 : Int32.ofInt 26 = 26 := by decide +kernel
theorem c32_27 : Int32.ofInt 27 = 27 := by decide +kernel
theorem c32_28 : Int32.ofInt 28 = 28 := by decide +kernel
theorem c32_29 : Int32.ofInt 29 = 29 := by decide +kernel
theorem c32_30 : Int32.ofInt 30 = 30 := by decide +kernel
theorem c32_31 : Int32.ofInt 31 = 31 := by decide +kernel
theorem c32_32 : Int32.ofInt 32 = 32 := by decide +kernel
theorem c32_33 : Int32.ofInt 33 = 33 := by decide +kernel
theorem c32_34 : Int32.ofInt 34 = 34 := by decide +kernel
theorem c32_35 : Int32.ofInt 35 = 35 := by decide +kernel
theorem c32_36 : Int32.ofInt 36 = 36 := by decide +kernel
theorem c32_37 : Int32.ofInt 37 = 37 := by decide +kernel
theorem c32_38 : Int32.ofInt 38 = 38 := by decide +kernel
theorem c32_39 : Int32.ofInt 39 = 39 := by decide +kernel
theorem c32_40 : Int32.ofInt 40 = 40 := by decide +kernel
theorem c32_41 : Int32.ofInt 41 = 41 := by decide +kernel
theorem c32_42 : Int32.ofInt 42 = 42 := by decide +kernel
theorem c32_43 : Int32.ofInt 43 = 43 := by decide +kernel
theorem c32_44 : Int32.ofInt 44 = 44 := by decide +kernel
theorem c32_45 : Int32.ofInt 45 = 45 := by decide +kernel
theorem c32_46 : Int32.ofInt 46 = 46 := by decide +kernel
theorem c32_47 : Int32.ofInt 47 = 47 := by decide +kernel
theorem c32_60 : Int32.ofInt 60 = 60 := by decide +kernel
theorem c32_61 : Int32.ofInt 61 = 61 := by decide +kernel
theorem jK_1_7 (K : Nat → Prop) : jK 1 7 K = K 8 := jK_eq (t := 8) (by decide)
theorem jK_1_8 (K : Nat → Prop) : jK 1 8 K = K 9 := jK_eq (t := 9) (by decide)
theorem jK_1_14 (K : Nat → Prop) : jK 1 14 K = K 15 := jK_eq (t := 15) (by decide)
theorem jK_1_27 (K : Nat → Prop) : jK 1 27 K = K 28 := jK_eq (t := 28) (by decide)
theorem jK_1_29 (K : Nat → Prop) : jK 1 29 K = K 30 := jK_eq (t := 30) (by decide)
theorem jK_1_30 (K : Nat → Prop) : jK 1 30 K = K 31 := jK_eq (t := 31) (by decide)
theorem jK_1_43 (K : Nat → Prop) : jK 1 43 K = K 44 := jK_eq (t := 44) (by decide)
theorem jK_1_47 (K : Nat → Prop) : jK 1 47 K = K 48 := jK_eq (t := 48) (by decide)
theorem jK_1_57 (K : Nat → Prop) : jK 1 57 K = K 58 := jK_eq (t := 58) (by decide)
theorem jK_1_59 (K : Nat → Prop) : jK 1 59 K = K 60 := jK_eq (t := 60) (by decide)
theorem jK_1_63 (K : Nat → Prop) : jK 1 63 K = K 64 := jK_eq (t := 64) (by decide)
theorem jK_1_68 (K : Nat → Prop) : jK 1 68 K = K 69 := jK_eq (t := 69) (by decide)
theorem jK_1_71 (K : Nat → Prop) : jK 1 71 K = K 72 := jK_eq (t := 72) (by decide)
theorem jK_1_73 (K : Nat → Prop) : jK 1 73 K = K 74 := jK_eq (t := 74) (by decide)
theorem jK_1_76 (K : Nat → Prop) : jK 1 76 K = K 77 := jK_eq (t := 77) (by decide)
theorem jK_1_78 (K : Nat → Prop) : jK 1 78 K = K 79 := jK_eq (t := 79) (by decide)
theorem jK_1_79 (K : Nat → Prop) : jK 1 79 K = K 80 := jK_eq (t := 80) (by decide)
theorem jK_1_82 (K : Nat → Prop) : jK 1 82 K = K 83 := jK_eq (t := 83) (by decide)
theorem jK_1_83 (K : Nat → Prop) : jK 1 83 K = K 84 := jK_eq (t := 84) (by decide)
theorem jK_1_87 (K : Nat → Prop) : jK 1 87 K = K 88 := jK_eq (t := 88) (by decide)
theorem jK_1_88 (K : Nat → Prop) : jK 1 88 K = K 89 := jK_eq (t := 89) (by decide)
theorem jK_1_93 (K : Nat → Prop) : jK 1 93 K = K 94 := jK_eq (t := 94) (by decide)
theorem jK_1_95 (K : Nat → Prop) : jK 1 95 K = K 96 := jK_eq (t := 96) (by decide)
theorem jK_1_97 (K : Nat → Prop) : jK 1 97 K = K 98 := jK_eq (t := 98) (by decide)
theorem jK_1_98 (K : Nat → Prop) : jK 1 98 K = K 99 := jK_eq (t := 99) (by decide)
theorem jK_1_101 (K : Nat → Prop) : jK 1 101 K = K 102 := jK_eq (t := 102) (by decide)
theorem jK_1_103 (K : Nat → Prop) : jK 1 103 K = K 104 := jK_eq (t := 104) (by decide)
theorem jK_1_107 (K : Nat → Prop) : jK 1 107 K = K 108 := jK_eq (t := 108) (by decide)
theorem jK_1_108 (K : Nat → Prop) : jK 1 108 K = K 109 := jK_eq (t := 109) (by decide)
theorem jK_1_111 (K : Nat → Prop) : jK 1 111 K = K 112 := jK_eq (t := 112) (by decide)
theorem jK_1_118 (K : Nat → Prop) : jK 1 118 K = K 119 := jK_eq (t := 119) (by decide)
theorem jK_1_119 (K : Nat → Prop) : jK 1 119 K = K 120 := jK_eq (t := 120) (by decide)
theorem jK_1_121 (K : Nat → Prop) : jK 1 121 K = K 122 := jK_eq (t := 122) (by decide)
theorem jK_1_125 (K : Nat → Prop) : jK 1 125 K = K 126 := jK_eq (t := 126) (by decide)
theorem jK_1_127 (K : Nat → Prop) : jK 1 127 K = K 128 := jK_eq (t := 128) (by decide)
theorem jK_1_129 (K : Nat → Prop) : jK 1 129 K = K 130 := jK_eq (t := 130) (by decide)
theorem jK_1_135 (K : Nat → Prop) : jK 1 135 K = K 136 := jK_eq (t := 136) (by decide)
theorem jK_1_145 (K : Nat → Prop) : jK 1 145 K = K 146 := jK_eq (t := 146) (by decide)
theorem jK_1_155 (K : Nat → Prop) : jK 1 155 K = K 156 := jK_eq (t := 156) (by decide)
theorem jK_1_165 (K : Nat → Prop) : jK 1 165 K = K 166 := jK_eq (t := 166) (by decide)
theorem jK_2_7 (K : Nat → Prop) : jK 2 7 K = K 9 := jK_eq (t := 9) (by decide)
theorem jK_2_10 (K : Nat → Prop) : jK 2 10 K = K 12 := jK_eq (t := 12) (by decide)
theorem jK_2_12 (K : Nat → Prop) : jK 2 12 K = K 14 := jK_eq (t := 14) (by decide)
theorem jK_3_10 (K : Nat → Prop) : jK 3 10 K = K 13 := jK_eq (t := 13) (by decide)
theorem jK_3_13 (K : Nat → Prop) : jK 3 13 K = K 16 := jK_eq (t := 16) (by decide)
theorem jK_3_14 (K : Nat → Prop) : jK 3 14 K = K 17 := jK_eq (t := 17) (by decide)
theorem jK_3_18 (K : Nat → Prop) : jK 3 18 K = K 21 := jK_eq (t := 21) (by decide)
theorem jK_3_25 (K : Nat → Prop) : jK 3 25 K = K 28 := jK_eq (t := 28) (by decide)
theorem jK_4_6 (K : Nat → Prop) : jK 4 6 K = K 10 := jK_eq (t := 10) (by decide)
theorem jK_4_10 (K : Nat → Prop) : jK 4 10 K = K 14 := jK_eq (t := 14) (by decide)
theorem jK_4_12 (K : Nat → Prop) : jK 4 12 K = K 16 := jK_eq (t := 16) (by decide)
theorem jK_4_13 (K : Nat → Prop) : jK 4 13 K = K 17 := jK_eq (t := 17) (by decide)
theorem jK_4_14 (K : Nat → Prop) : jK 4 14 K = K 18 := jK_eq (t := 18) (by decide)
theorem jK_4_17 (K : Nat → Prop) : jK 4 17 K = K 21 := jK_eq (t := 21) (by decide)
theorem jK_4_19 (K : Nat → Prop) : jK 4 19 K = K 23 := jK_eq (t := 23) (by decide)
theorem jK_4_20 (K : Nat → Prop) : jK 4 20 K = K 24 := jK_eq (t := 24) (by decide)
theorem jK_4_21 (K : Nat → Prop) : jK 4 21 K = K 25 := jK_eq (t := 25) (by decide)
theorem jK_4_86 (K : Nat → Prop) : jK 4 86 K = K 90 := jK_eq (t := 90) (by decide)
theorem jK_5_4 (K : Nat → Prop) : jK 5 4 K = K 9 := jK_eq (t := 9) (by decide)
theorem jK_5_6 (K : Nat → Prop) : jK 5 6 K = K 11 := jK_eq (t := 11) (by decide)
theorem jK_5_7 (K : Nat → Prop) : jK 5 7 K = K 12 := jK_eq (t := 12) (by decide)
theorem jK_5_10 (K : Nat → Prop) : jK 5 10 K = K 15 := jK_eq (t := 15) (by decide)
theorem jK_5_11 (K : Nat → Prop) : jK 5 11 K = K 16 := jK_eq (t := 16) (by decide)
theorem jK_5_13 (K : Nat → Prop) : jK 5 13 K = K 18 := jK_eq (t := 18) (by decide)
theorem jK_5_14 (K : Nat → Prop) : jK 5 14 K = K 19 := jK_eq (t := 19) (by decide)
theorem jK_5_15 (K : Nat → Prop) : jK 5 15 K = K 20 := jK_eq (t := 20) (by decide)
theorem jK_5_16 (K : Nat → Prop) : jK 5 16 K = K 21 := jK_eq (t := 21) (by decide)
theorem jK_5_20 (K : Nat → Prop) : jK 5 20 K = K 25 := jK_eq (t := 25) (by decide)
theorem jK_5_22 (K : Nat → Prop) : jK 5 22 K = K 27 := jK_eq (t := 27) (by decide)
theorem jK_5_23 (K : Nat → Prop) : jK 5 23 K = K 28 := jK_eq (t := 28) (by decide)
theorem jK_5_25 (K : Nat → Prop) : jK 5 25 K = K 30 := jK_eq (t := 30) (by decide)
theorem jK_5_29 (K : Nat → Prop) : jK 5 29 K = K 34 := jK_eq (t := 34) (by decide)
theorem jK_5_31 (K : Nat → Prop) : jK 5 31 K = K 36 := jK_eq (t := 36) (by decide)
theorem jK_5_32 (K : Nat → Prop) : jK 5 32 K = K 37 := jK_eq (t := 37) (by decide)
theorem jK_5_44 (K : Nat → Prop) : jK 5 44 K = K 49 := jK_eq (t := 49) (by decide)
theorem jK_5_46 (K : Nat → Prop) : jK 5 46 K = K 51 := jK_eq (t := 51) (by decide)
theorem jK_6_4 (K : Nat → Prop) : jK 6 4 K = K 10 := jK_eq (t := 10) (by decide)
theorem jK_6_6 (K : Nat → Prop) : jK 6 6 K = K 12 := jK_eq (t := 12) (by decide)
theorem jK_6_7 (K : Nat → Prop) : jK 6 7 K = K 13 := jK_eq (t := 13) (by decide)
theorem jK_6_10 (K : Nat → Prop) : jK 6 10 K = K 16 := jK_eq (t := 16) (by decide)
theorem jK_6_11 (K : Nat → Prop) : jK 6 11 K = K 17 := jK_eq (t := 17) (by decide)
theorem jK_6_12 (K : Nat → Prop) : jK 6 12 K = K 18 := jK_eq (t := 18) (by decide)
theorem jK_6_14 (K : Nat → Prop) : jK 6 14 K = K 20 := jK_eq (t := 20) (by decide)
theorem jK_6_25 (K : Nat → Prop) : jK 6 25 K = K 31 := jK_eq (t := 31) (by decide)
theorem jK_6_34 (K : Nat → Prop) : jK 6 34 K = K 40 := jK_eq (t := 40) (by decide)
theorem jK_6_36 (K : Nat → Prop) : jK 6 36 K = K 42 := jK_eq (t := 42) (by decide)
theorem jK_6_38 (K : Nat → Prop) : jK 6 38 K = K 44 := jK_eq (t := 44) (by decide)
theorem jK_6_41 (K : Nat → Prop) : jK 6 41 K = K 47 := jK_eq (t := 47) (by decide)
theorem jK_6_42 (K : Nat → Prop) : jK 6 42 K = K 48 := jK_eq (t := 48) (by decide)
theorem jK_6_43 (K : Nat → Prop) : jK 6 43 K = K 49 := jK_eq (t := 49) (by decide)
theorem jK_6_78 (K : Nat → Prop) : jK 6 78 K = K 84 := jK_eq (t := 84) (by decide)
theorem jK_7_5 (K : Nat → Prop) : jK 7 5 K = K 12 := jK_eq (t := 12) (by decide)
theorem jK_7_6 (K : Nat → Prop) : jK 7 6 K = K 13 := jK_eq (t := 13) (by decide)
theorem jK_7_7 (K : Nat → Prop) : jK 7 7 K = K 14 := jK_eq (t := 14) (by decide)
theorem jK_7_10 (K : Nat → Prop) : jK 7 10 K = K 17 := jK_eq (t := 17) (by decide)
theorem jK_7_11 (K : Nat → Prop) : jK 7 11 K = K 18 := jK_eq (t := 18) (by decide)
theorem jK_7_12 (K : Nat → Prop) : jK 7 12 K = K 19 := jK_eq (t := 19) (by decide)
theorem jK_7_13 (K : Nat → Prop) : jK 7 13 K = K 20 := jK_eq (t := 20) (by decide)
theorem jK_7_17 (K : Nat → Prop) : jK 7 17 K = K 24 := jK_eq (t := 24) (by decide)
theorem jK_7_18 (K : Nat → Prop) : jK 7 18 K = K 25 := jK_eq (t := 25) (by decide)
theorem jK_7_19 (K : Nat → Prop) : jK 7 19 K = K 26 := jK_eq (t := 26) (by decide)
theorem jK_7_20 (K : Nat → Prop) : jK 7 20 K = K 27 := jK_eq (t := 27) (by decide)
theorem jK_7_21 (K : Nat → Prop) : jK 7 21 K = K 28 := jK_eq (t := 28) (by decide)
theorem jK_7_22 (K : Nat → Prop) : jK 7 22 K = K 29 := jK_eq (t := 29) (by decide)
theorem jK_7_24 (K : Nat → Prop) : jK 7 24 K = K 31 := jK_eq (t := 31) (by decide)
theorem jK_7_28 (K : Nat → Prop) : jK 7 28 K = K 35 := jK_eq (t := 35) (by decide)
theorem jK_7_32 (K : Nat → Prop) : jK 7 32 K = K 39 := jK_eq (t := 39) (by decide)
theorem jK_7_33 (K : Nat → Prop) : jK 7 33 K = K 40 := jK_eq (t := 40) (by decide)
theorem jK_7_41 (K : Nat → Prop) : jK 7 41 K = K 48 := jK_eq (t := 48) (by decide)
theorem jK_7_43 (K : Nat → Prop) : jK 7 43 K = K 50 := jK_eq (t := 50) (by decide)
theorem jK_8_5 (K : Nat → Prop) : jK 8 5 K = K 13 := jK_eq (t := 13) (by decide)
theorem jK_8_6 (K : Nat → Prop) : jK 8 6 K = K 14 := jK_eq (t := 14) (by decide)
theorem jK_8_7 (K : Nat → Prop) : jK 8 7 K = K 15 := jK_eq (t := 15) (by decide)
theorem jK_8_9 (K : Nat → Prop) : jK 8 9 K = K 17 := jK_eq (t := 17) (by decide)
theorem jK_8_10 (K : Nat → Prop) : jK 8 10 K = K 18 := jK_eq (t := 18) (by decide)
theorem jK_8_13 (K : Nat → Prop) : jK 8 13 K = K 21 := jK_eq (t := 21) (by decide)
theorem jK_8_14 (K : Nat → Prop) : jK 8 14 K = K 22 := jK_eq (t := 22) (by decide)
theorem jK_8_18 (K : Nat → Prop) : jK 8 18 K = K 26 := jK_eq (t := 26) (by decide)
theorem jK_8_19 (K : Nat → Prop) : jK 8 19 K = K 27 := jK_eq (t := 27) (by decide)
theorem jK_8_20 (K : Nat → Prop) : jK 8 20 K = K 28 := jK_eq (t := 28) (by decide)
theorem jK_8_21 (K : Nat → Prop) : jK 8 21 K = K 29 := jK_eq (t := 29) (by decide)
theorem jK_8_25 (K : Nat → Prop) : jK 8 25 K = K 33 := jK_eq (t := 33) (by decide)
theorem jK_8_32 (K : Nat → Prop) : jK 8 32 K = K 40 := jK_eq (t := 40) (by decide)
theorem jK_8_33 (K : Nat → Prop) : jK 8 33 K = K 41 := jK_eq (t := 41) (by decide)
theorem jK_8_44 (K : Nat → Prop) : jK 8 44 K = K 52 := jK_eq (t := 52) (by decide)
theorem jK_8_50 (K : Nat → Prop) : jK 8 50 K = K 58 := jK_eq (t := 58) (by decide)
theorem jK_9_4 (K : Nat → Prop) : jK 9 4 K = K 13 := jK_eq (t := 13) (by decide)
theorem jK_9_5 (K : Nat → Prop) : jK 9 5 K = K 14 := jK_eq (t := 14) (by decide)
theorem jK_9_6 (K : Nat → Prop) : jK 9 6 K = K 15 := jK_eq (t := 15) (by decide)
theorem jK_9_7 (K : Nat → Prop) : jK 9 7 K = K 16 := jK_eq (t := 16) (by decide)
theorem jK_9_10 (K : Nat → Prop) : jK 9 10 K = K 19 := jK_eq (t := 19) (by decide)
theorem jK_9_18 (K : Nat → Prop) : jK 9 18 K = K 27 := jK_eq (t := 27) (by decide)
theorem jK_9_25 (K : Nat → Prop) : jK 9 25 K = K 34 := jK_eq (t := 34) (by decide)
theorem jK_9_26 (K : Nat → Prop) : jK 9 26 K = K 35 := jK_eq (t := 35) (by decide)
theorem jK_9_27 (K : Nat → Prop) : jK 9 27 K = K 36 := jK_eq (t := 36) (by decide)
theorem jK_9_28 (K : Nat → Prop) : jK 9 28 K = K 37 := jK_eq (t := 37) (by decide)
theorem jK_9_29 (K : Nat → Prop) : jK 9 29 K = K 38 := jK_eq (t := 38) (by decide)
theorem jK_9_33 (K : Nat → Prop) : jK 9 33 K = K 42 := jK_eq (t := 42) (by decide)
theorem jK_9_36 (K : Nat → Prop) : jK 9 36 K = K 45 := jK_eq (t := 45) (by decide)
theorem jK_9_58 (K : Nat → Prop) : jK 9 58 K = K 67 := jK_eq (t := 67) (by decide)
theorem jK_9_60 (K : Nat → Prop) : jK 9 60 K = K 69 := jK_eq (t := 69) (by decide)
theorem jK_9_69 (K : Nat → Prop) : jK 9 69 K = K 78 := jK_eq (t := 78) (by decide)
theorem jK_9_71 (K : Nat → Prop) : jK 9 71 K = K 80 := jK_eq (t := 80) (by decide)
theorem jK_9_87 (K : Nat → Prop) : jK 9 87 K = K 96 := jK_eq (t := 96) (by decide)
theorem jK_9_91 (K : Nat → Prop) : jK 9 91 K = K 100 := jK_eq (t := 100) (by decide)
theorem jK_9_106 (K : Nat → Prop) : jK 9 106 K = K 115 := jK_eq (t := 115) (by decide)
theorem jK_10_4 (K : Nat → Prop) : jK 10 4 K = K 14 := jK_eq (t := 14) (by decide)
theorem jK_10_7 (K : Nat → Prop) : jK 10 7 K = K 17 := jK_eq (t := 17) (by decide)
theorem jK_10_20 (K : Nat → Prop) : jK 10 20 K = K 30 := jK_eq (t := 30) (by decide)
theorem jK_10_21 (K : Nat → Prop) : jK 10 21 K = K 31 := jK_eq (t := 31) (by decide)
theorem jK_10_67 (K : Nat → Prop) : jK 10 67 K = K 77 := jK_eq (t := 77) (by decide)
theorem jK_11_4 (K : Nat → Prop) : jK 11 4 K = K 15 := jK_eq (t := 15) (by decide)
theorem jK_11_6 (K : Nat → Prop) : jK 11 6 K = K 17 := jK_eq (t := 17) (by decide)
theorem jK_11_7 (K : Nat → Prop) : jK 11 7 K = K 18 := jK_eq (t := 18) (by decide)
theorem jK_11_10 (K : Nat → Prop) : jK 11 10 K = K 21 := jK_eq (t := 21) (by decide)
theorem jK_11_12 (K : Nat → Prop) : jK 11 12 K = K 23 := jK_eq (t := 23) (by decide)
theorem jK_11_13 (K : Nat → Prop) : jK 11 13 K = K 24 := jK_eq (t := 24) (by decide)
theorem jK_11_20 (K : Nat → Prop) : jK 11 20 K = K 31 := jK_eq (t := 31) (by decide)
theorem jK_11_28 (K : Nat → Prop) : jK 11 28 K = K 39 := jK_eq (t := 39) (by decide)
theorem jK_11_29 (K : Nat → Prop) : jK 11 29 K = K 40 := jK_eq (t := 40) (by decide)
theorem jK_11_30 (K : Nat → Prop) : jK 11 30 K = K 41 := jK_eq (t := 41) (by decide)
theorem jK_11_33 (K : Nat → Prop) : jK 11 33 K = K 44 := jK_eq (t := 44) (by decide)
theorem jK_11_39 (K : Nat → Prop) : jK 11 39 K = K 50 := jK_eq (t := 50) (by decide)
theorem jK_11_48 (K : Nat → Prop) : jK 11 48 K = K 59 := jK_eq (t := 59) (by decide)
theorem jK_11_57 (K : Nat → Prop) : jK 11 57 K = K 68 := jK_eq (t := 68) (by decide)
theorem jK_11_68 (K : Nat → Prop) : jK 11 68 K = K 79 := jK_eq (t := 79) (by decide)
theorem jK_11_69 (K : Nat → Prop) : jK 11 69 K = K 80 := jK_eq (t := 80) (by decide)
theorem jK_11_207 (K : Nat → Prop) : jK 11 207 K = K 218 := jK_eq (t := 218) (by decide)
theorem jK_12_4 (K : Nat → Prop) : jK 12 4 K = K 16 := jK_eq (t := 16) (by decide)
theorem jK_12_6 (K : Nat → Prop) : jK 12 6 K = K 18 := jK_eq (t := 18) (by decide)
theorem jK_12_7 (K : Nat → Prop) : jK 12 7 K = K 19 := jK_eq (t := 19) (by decide)
theorem jK_12_9 (K : Nat → Prop) : jK 12 9 K = K 21 := jK_eq (t := 21) (by decide)
theorem jK_12_11 (K : Nat → Prop) : jK 12 11 K = K 23 := jK_eq (t := 23) (by decide)
theorem jK_12_21 (K : Nat → Prop) : jK 12 21 K = K 33 := jK_eq (t := 33) (by decide)
theorem jK_12_33 (K : Nat → Prop) : jK 12 33 K = K 45 := jK_eq (t := 45) (by decide)
theorem jK_12_34 (K : Nat → Prop) : jK 12 34 K = K 46 := jK_eq (t := 46) (by decide)
theorem jK_12_40 (K : Nat → Prop) : jK 12 40 K = K 52 := jK_eq (t := 52) (by decide)
theorem jK_12_47 (K : Nat → Prop) : jK 12 47 K = K 59 := jK_eq (t := 59) (by decide)
theorem jK_12_48 (K : Nat → Prop) : jK 12 48 K = K 60 := jK_eq (t := 60) (by decide)
theorem jK_12_49 (K : Nat → Prop) : jK 12 49 K = K 61 := jK_eq (t := 61) (by decide)
theorem jK_12_52 (K : Nat → Prop) : jK 12 52 K = K 64 := jK_eq (t := 64) (by decide)
theorem jK_12_54 (K : Nat → Prop) : jK 12 54 K = K 66 := jK_eq (t := 66) (by decide)
theorem jK_12_61 (K : Nat → Prop) : jK 12 61 K = K 73 := jK_eq (t := 73) (by decide)
theorem jK_12_76 (K : Nat → Prop) : jK 12 76 K = K 88 := jK_eq (t := 88) (by decide)
theorem jK_12_82 (K : Nat → Prop) : jK 12 82 K = K 94 := jK_eq (t := 94) (by decide)
theorem jK_12_97 (K : Nat → Prop) : jK 12 97 K = K 109 := jK_eq (t := 109) (by decide)
theorem jK_13_4 (K : Nat → Prop) : jK 13 4 K = K 17 := jK_eq (t := 17) (by decide)
theorem jK_13_5 (K : Nat → Prop) : jK 13 5 K = K 18 := jK_eq (t := 18) (by decide)
theorem jK_13_6 (K : Nat → Prop) : jK 13 6 K = K 19 := jK_eq (t := 19) (by decide)
theorem jK_13_7 (K : Nat → Prop) : jK 13 7 K = K 20 := jK_eq (t := 20) (by decide)
theorem jK_13_12 (K : Nat → Prop) : jK 13 12 K = K 25 := jK_eq (t := 25) (by decide)
theorem jK_13_17 (K : Nat → Prop) : jK 13 17 K = K 30 := jK_eq (t := 30) (by decide)
theorem jK_13_23 (K : Nat → Prop) : jK 13 23 K = K 36 := jK_eq (t := 36) (by decide)
theorem jK_13_24 (K : Nat → Prop) : jK 13 24 K = K 37 := jK_eq (t := 37) (by decide)
theorem jK_13_29 (K : Nat → Prop) : jK 13 29 K = K 42 := jK_eq (t := 42) (by decide)
theorem jK_13_38 (K : Nat → Prop) : jK 13 38 K = K 51 := jK_eq (t := 51) (by decide)
theorem jK_13_48 (K : Nat → Prop) : jK 13 48 K = K 61 := jK_eq (t := 61) (by decide)
theorem jK_14_4 (K : Nat → Prop) : jK 14 4 K = K 18 := jK_eq (t := 18) (by decide)
theorem jK_14_6 (K : Nat → Prop) : jK 14 6 K = K 20 := jK_eq (t := 20) (by decide)
theorem jK_14_7 (K : Nat → Prop) : jK 14 7 K = K 21 := jK_eq (t := 21) (by decide)
theorem jK_14_10 (K : Nat → Prop) : jK 14 10 K = K 24 := jK_eq (t := 24) (by decide)
theorem jK_14_14 (K : Nat → Prop) : jK 14 14 K = K 28 := jK_eq (t := 28) (by decide)
theorem jK_14_25 (K : Nat → Prop) : jK 14 25 K = K 39 := jK_eq (t := 39) (by decide)
theorem jK_14_32 (K : Nat → Prop) : jK 14 32 K = K 46 := jK_eq (t := 46) (by decide)
theorem jK_14_35 (K : Nat → Prop) : jK 14 35 K = K 49 := jK_eq (t := 49) (by decide)
theorem jK_14_87 (K : Nat → Prop) : jK 14 87 K = K 101 := jK_eq (t := 101) (by decide)
theorem jK_15_5 (K : Nat → Prop) : jK 15 5 K = K 20 := jK_eq (t := 20) (by decide)
theorem jK_15_6 (K : Nat → Prop) : jK 15 6 K = K 21 := jK_eq (t := 21) (by decide)
theorem jK_15_7 (K : Nat → Prop) : jK 15 7 K = K 22 := jK_eq (t := 22) (by decide)
theorem jK_15_9 (K : Nat → Prop) : jK 15 9 K = K 24 := jK_eq (t := 24) (by decide)
theorem jK_15_11 (K : Nat → Prop) : jK 15 11 K = K 26 := jK_eq (t := 26) (by decide)
theorem jK_15_12 (K : Nat → Prop) : jK 15 12 K = K 27 := jK_eq (t := 27) (by decide)
theorem jK_15_13 (K : Nat → Prop) : jK 15 13 K = K 28 := jK_eq (t := 28) (by decide)
theorem jK_15_14 (K : Nat → Prop) : jK 15 14 K = K 29 := jK_eq (t := 29) (by decide)
theorem jK_15_15 (K : Nat → Prop) : jK 15 15 K = K 30 := jK_eq (t := 30) (by decide)
theorem jK_15_18 (K : Nat → Prop) : jK 15 18 K = K 33 := jK_eq (t := 33) (by decide)
theorem jK_15_19 (K : Nat → Prop) : jK 15 19 K = K 34 := jK_eq (t := 34) (by decide)
theorem jK_15_21 (K : Nat → Prop) : jK 15 21 K = K 36 := jK_eq (t := 36) (by decide)
theorem jK_15_29 (K : Nat → Prop) : jK 15 29 K = K 44 := jK_eq (t := 44) (by decide)
theorem jK_15_43 (K : Nat → Prop) : jK 15 43 K = K 58 := jK_eq (t := 58) (by decide)
theorem jK_15_47 (K : Nat → Prop) : jK 15 47 K = K 62 := jK_eq (t := 62) (by decide)
theorem jK_15_109 (K : Nat → Prop) : jK 15 109 K = K 124 := jK_eq (t := 124) (by decide)
theorem jK_16_5 (K : Nat → Prop) : jK 16 5 K = K 21 := jK_eq (t := 21) (by decide)
theorem jK_16_6 (K : Nat → Prop) : jK 16 6 K = K 22 := jK_eq (t := 22) (by decide)
theorem jK_16_7 (K : Nat → Prop) : jK 16 7 K = K 23 := jK_eq (t := 23) (by decide)
theorem jK_16_10 (K : Nat → Prop) : jK 16 10 K = K 26 := jK_eq (t := 26) (by decide)
theorem jK_16_11 (K : Nat → Prop) : jK 16 11 K = K 27 := jK_eq (t := 27) (by decide)
theorem jK_16_13 (K : Nat → Prop) : jK 16 13 K = K 29 := jK_eq (t := 29) (by decide)
theorem jK_16_17 (K : Nat → Prop) : jK 16 17 K = K 33 := jK_eq (t := 33) (by decide)
theorem jK_16_22 (K : Nat → Prop) : jK 16 22 K = K 38 := jK_eq (t := 38) (by decide)
theorem jK_16_23 (K : Nat → Prop) : jK 16 23 K = K 39 := jK_eq (t := 39) (by decide)
theorem jK_16_25 (K : Nat → Prop) : jK 16 25 K = K 41 := jK_eq (t := 41) (by decide)
theorem jK_16_28 (K : Nat → Prop) : jK 16 28 K = K 44 := jK_eq (t := 44) (by decide)
theorem jK_16_39 (K : Nat → Prop) : jK 16 39 K = K 55 := jK_eq (t := 55) (by decide)
theorem jK_16_68 (K : Nat → Prop) : jK 16 68 K = K 84 := jK_eq (t := 84) (by decide)
theorem jK_17_m13 (K : Nat → Prop) : jK 17 (-13) K = K 4 := jK_eq (t := 4) (by decide)
theorem jK_17_m12 (K : Nat → Prop) : jK 17 (-12) K = K 5 := jK_eq (t := 5) (by decide)
theorem jK_17_4 (K : Nat → Prop) : jK 17 4 K = K 21 := jK_eq (t := 21) (by decide)
theorem jK_17_5 (K : Nat → Prop) : jK 17 5 K = K 22 := jK_eq (t := 22) (by decide)
theorem jK_17_6 (K : Nat → Prop) : jK 17 6 K = K 23 := jK_eq (t := 23) (by decide)
theorem jK_17_8 (K : Nat → Prop) : jK 17 8 K = K 25 := jK_eq (t := 25) (by decide)
theorem jK_17_14 (K : Nat → Prop) : jK 17 14 K = K 31 := jK_eq (t := 31) (by decide)
theorem jK_17_23 (K : Nat → Prop) : jK 17 23 K = K 40 := jK_eq (t := 40) (by decide)
theorem jK_18_4 (K : Nat → Prop) : jK 18 4 K = K 22 := jK_eq (t := 22) (by decide)
theorem jK_18_5 (K : Nat → Prop) : jK 18 5 K = K 23 := jK_eq (t := 23) (by decide)
theorem jK_18_6 (K : Nat → Prop) : jK 18 6 K = K 24 := jK_eq (t := 24) (by decide)
theorem jK_18_7 (K : Nat → Prop) : jK 18 7 K = K 25 := jK_eq (t := 25) (by decide)
theorem jK_18_13 (K : Nat → Prop) : jK 18 13 K = K 31 := jK_eq (t := 31) (by decide)
theorem jK_18_16 (K : Nat → Prop) : jK 18 16 K = K 34 := jK_eq (t := 34) (by decide)
theorem jK_18_71 (K : Nat → Prop) : jK 18 71 K = K 89 := jK_eq (t := 89) (by decide)
theorem jK_19_4 (K : Nat → Prop) : jK 19 4 K = K 23 := jK_eq (t := 23) (by decide)
theorem jK_19_5 (K : Nat → Prop) : jK 19 5 K = K 24 := jK_eq (t := 24) (by decide)
theorem jK_19_6 (K : Nat → Prop) : jK 19 6 K = K 25 := jK_eq (t := 25) (by decide)
theorem jK_19_7 (K : Nat → Prop) : jK 19 7 K = K 26 := jK_eq (t := 26) (by decide)
theorem jK_19_12 (K : Nat → Prop) : jK 19 12 K = K 31 := jK_eq (t := 31) (by decide)
theorem jK_19_14 (K : Nat → Prop) : jK 19 14 K = K 33 := jK_eq (t := 33) (by decide)
theorem jK_19_17 (K : Nat → Prop) : jK 19 17 K = K 36 := jK_eq (t := 36) (by decide)
theorem jK_19_23 (K : Nat → Prop) : jK 19 23 K = K 42 := jK_eq (t := 42) (by decide)
theorem jK_19_39 (K : Nat → Prop) : jK 19 39 K = K 58 := jK_eq (t := 58) (by decide)
theorem jK_19_40 (K : Nat → Prop) : jK 19 40 K = K 59 := jK_eq (t := 59) (by decide)
theorem jK_20_4 (K : Nat → Prop) : jK 20 4 K = K 24 := jK_eq (t := 24) (by decide)
theorem jK_20_5 (K : Nat → Prop) : jK 20 5 K = K 25 := jK_eq (t := 25) (by decide)
theorem jK_20_6 (K : Nat → Prop) : jK 20 6 K = K 26 := jK_eq (t := 26) (by decide)
theorem jK_20_7 (K : Nat → Prop) : jK 20 7 K = K 27 := jK_eq (t := 27) (by decide)
theorem jK_20_8 (K : Nat → Prop) : jK 20 8 K = K 28 := jK_eq (t := 28) (by decide)
theorem jK_20_10 (K : Nat → Prop) : jK 20 10 K = K 30 := jK_eq (t := 30) (by decide)
theorem jK_20_13 (K : Nat → Prop) : jK 20 13 K = K 33 := jK_eq (t := 33) (by decide)
theorem jK_20_18 (K : Nat → Prop) : jK 20 18 K = K 38 := jK_eq (t := 38) (by decide)
theorem jK_20_28 (K : Nat → Prop) : jK 20 28 K = K 48 := jK_eq (t := 48) (by decide)
theorem jK_20_34 (K : Nat → Prop) : jK 20 34 K = K 54 := jK_eq (t := 54) (by decide)
theorem jK_20_47 (K : Nat → Prop) : jK 20 47 K = K 67 := jK_eq (t := 67) (by decide)
theorem jK_20_53 (K : Nat → Prop) : jK 20 53 K = K 73 := jK_eq (t := 73) (by decide)
theorem jK_20_163 (K : Nat → Prop) : jK 20 163 K = K 183 := jK_eq (t := 183) (by decide)
theorem jK_21_4 (K : Nat → Prop) : jK 21 4 K = K 25 := jK_eq (t := 25) (by decide)
theorem jK_21_5 (K : Nat → Prop) : jK 21 5 K = K 26 := jK_eq (t := 26) (by decide)
theorem jK_21_6 (K : Nat → Prop) : jK 21 6 K = K 27 := jK_eq (t := 27) (by decide)
theorem jK_21_12 (K : Nat → Prop) : jK 21 12 K = K 33 := jK_eq (t := 33) (by decide)
theorem jK_21_15 (K : Nat → Prop) : jK 21 15 K = K 36 := jK_eq (t := 36) (by decide)
theorem jK_21_23 (K : Nat → Prop) : jK 21 23 K = K 44 := jK_eq (t := 44) (by decide)
theorem jK_21_24 (K : Nat → Prop) : jK 21 24 K = K 45 := jK_eq (t := 45) (by decide)
theorem jK_21_27 (K : Nat → Prop) : jK 21 27 K = K 48 := jK_eq (t := 48) (by decide)
theorem jK_21_29 (K : Nat → Prop) : jK 21 29 K = K 50 := jK_eq (t := 50) (by decide)
theorem jK_21_37 (K : Nat → Prop) : jK 21 37 K = K 58 := jK_eq (t := 58) (by decide)
theorem jK_21_46 (K : Nat → Prop) : jK 21 46 K = K 67 := jK_eq (t := 67) (by decide)
theorem jK_21_59 (K : Nat → Prop) : jK 21 59 K = K 80 := jK_eq (t := 80) (by decide)
theorem jK_22_4 (K : Nat → Prop) : jK 22 4 K = K 26 := jK_eq (t := 26) (by decide)
theorem jK_22_5 (K : Nat → Prop) : jK 22 5 K = K 27 := jK_eq (t := 27) (by decide)
theorem jK_22_6 (K : Nat → Prop) : jK 22 6 K = K 28 := jK_eq (t := 28) (by decide)
theorem jK_22_7 (K : Nat → Prop) : jK 22 7 K = K 29 := jK_eq (t := 29) (by decide)
theorem jK_22_11 (K : Nat → Prop) : jK 22 11 K = K 33 := jK_eq (t := 33) (by decide)
theorem jK_22_12 (K : Nat → Prop) : jK 22 12 K = K 34 := jK_eq (t := 34) (by decide)
theorem jK_22_13 (K : Nat → Prop) : jK 22 13 K = K 35 := jK_eq (t := 35) (by decide)
theorem jK_22_17 (K : Nat → Prop) : jK 22 17 K = K 39 := jK_eq (t := 39) (by decide)
theorem jK_22_18 (K : Nat → Prop) : jK 22 18 K = K 40 := jK_eq (t := 40) (by decide)
theorem jK_22_20 (K : Nat → Prop) : jK 22 20 K = K 42 := jK_eq (t := 42) (by decide)
theorem jK_22_21 (K : Nat → Prop) : jK 22 21 K = K 43 := jK_eq (t := 43) (by decide)
theorem jK_22_27 (K : Nat → Prop) : jK 22 27 K = K 49 := jK_eq (t := 49) (by decide)
theorem jK_22_33 (K : Nat → Prop) : jK 22 33 K = K 55 := jK_eq (t := 55) (by decide)
theorem jK_22_74 (K : Nat → Prop) : jK 22 74 K = K 96 := jK_eq (t := 96) (by decide)
theorem jK_23_4 (K : Nat → Prop) : jK 23 4 K = K 27 := jK_eq (t := 27) (by decide)
theorem jK_23_5 (K : Nat → Prop) : jK 23 5 K = K 28 := jK_eq (t := 28) (by decide)
theorem jK_23_6 (K : Nat → Prop) : jK 23 6 K = K 29 := jK_eq (t := 29) (by decide)
theorem jK_23_7 (K : Nat → Prop) : jK 23 7 K = K 30 := jK_eq (t := 30) (by decide)
theorem jK_23_14 (K : Nat → Prop) : jK 23 14 K = K 37 := jK_eq (t := 37) (by decide)
theorem jK_23_15 (K : Nat → Prop) : jK 23 15 K = K 38 := jK_eq (t := 38) (by decide)
theorem jK_23_22 (K : Nat → Prop) : jK 23 22 K = K 45 := jK_eq (t := 45) (by decide)
theorem jK_23_25 (K : Nat → Prop) : jK 23 25 K = K 48 := jK_eq (t := 48) (by decide)
theorem jK_23_28 (K : Nat → Prop) : jK 23 28 K = K 51 := jK_eq (t := 51) (by decide)
theorem jK_23_39 (K : Nat → Prop) : jK 23 39 K = K 62 := jK_eq (t := 62) (by decide)
theorem jK_23_46 (K : Nat → Prop) : jK 23 46 K = K 69 := jK_eq (t := 69) (by decide)
theorem jK_23_47 (K : Nat → Prop) : jK 23 47 K = K 70 := jK_eq (t := 70) (by decide)
theorem jK_23_67 (K : Nat → Prop) : jK 23 67 K = K 90 := jK_eq (t := 90) (by decide)
theorem jK_23_165 (K : Nat → Prop) : jK 23 165 K = K 188 := jK_eq (t := 188) (by decide)
theorem jK_24_m19 (K : Nat → Prop) : jK 24 (-19) K = K 5 := jK_eq (t := 5) (by decide)
theorem jK_24_4 (K : Nat → Prop) : jK 24 4 K = K 28 := jK_eq (t := 28) (by decide)
theorem jK_24_5 (K : Nat → Prop) : jK 24 5 K = K 29 := jK_eq (t := 29) (by decide)
theorem jK_24_6 (K : Nat → Prop) : jK 24 6 K = K 30 := jK_eq (t := 30) (by decide)
theorem jK_24_14 (K : Nat → Prop) : jK 24 14 K = K 38 := jK_eq (t := 38) (by decide)
theorem jK_24_15 (K : Nat → Prop) : jK 24 15 K = K 39 := jK_eq (t := 39) (by decide)
theorem jK_24_16 (K : Nat → Prop) : jK 24 16 K = K 40 := jK_eq (t := 40) (by decide)
theorem jK_24_17 (K : Nat → Prop) : jK 24 17 K = K 41 := jK_eq (t := 41) (by decide)
theorem jK_24_34 (K : Nat → Prop) : jK 24 34 K = K 58 := jK_eq (t := 58) (by decide)
theorem jK_24_1970 (K : Nat → Prop) : jK 24 1970 K = K 1994 := jK_eq (t := 1994) (by decide)
theorem jK_25_6 (K : Nat → Prop) : jK 25 6 K = K 31 := jK_eq (t := 31) (by decide)
theorem jK_25_12 (K : Nat → Prop) : jK 25 12 K = K 37 := jK_eq (t := 37) (by decide)
theorem jK_25_13 (K : Nat → Prop) : jK 25 13 K = K 38 := jK_eq (t := 38) (by decide)
theorem jK_25_14 (K : Nat → Prop) : jK 25 14 K = K 39 := jK_eq (t := 39) (by decide)
theorem jK_25_15 (K : Nat → Prop) : jK 25 15 K = K 40 := jK_eq (t := 40) (by decide)
theorem jK_25_16 (K : Nat → Prop) : jK 25 16 K = K 41 := jK_eq (t := 41) (by decide)
theorem jK_25_17 (K : Nat → Prop) : jK 25 17 K = K 42 := jK_eq (t := 42) (by decide)
theorem jK_25_35 (K : Nat → Prop) : jK 25 35 K = K 60 := jK_eq (t := 60) (by decide)
theorem jK_25_38 (K : Nat → Prop) : jK 25 38 K = K 63 := jK_eq (t := 63) (by decide)
theorem jK_25_39 (K : Nat → Prop) : jK 25 39 K = K 64 := jK_eq (t := 64) (by decide)
theorem jK_25_41 (K : Nat → Prop) : jK 25 41 K = K 66 := jK_eq (t := 66) (by decide)
theorem jK_25_43 (K : Nat → Prop) : jK 25 43 K = K 68 := jK_eq (t := 68) (by decide)
theorem jK_25_44 (K : Nat → Prop) : jK 25 44 K = K 69 := jK_eq (t := 69) (by decide)
theorem jK_25_49 (K : Nat → Prop) : jK 25 49 K = K 74 := jK_eq (t := 74) (by decide)
theorem jK_25_54 (K : Nat → Prop) : jK 25 54 K = K 79 := jK_eq (t := 79) (by decide)
theorem jK_25_56 (K : Nat → Prop) : jK 25 56 K = K 81 := jK_eq (t := 81) (by decide)
theorem jK_25_58 (K : Nat → Prop) : jK 25 58 K = K 83 := jK_eq (t := 83) (by decide)
theorem jK_25_62 (K : Nat → Prop) : jK 25 62 K = K 87 := jK_eq (t := 87) (by decide)
theorem jK_25_67 (K : Nat → Prop) : jK 25 67 K = K 92 := jK_eq (t := 92) (by decide)
theorem jK_25_75 (K : Nat → Prop) : jK 25 75 K = K 100 := jK_eq (t := 100) (by decide)
theorem jK_26_4 (K : Nat → Prop) : jK 26 4 K = K 30 := jK_eq (t := 30) (by decide)
theorem jK_26_6 (K : Nat → Prop) : jK 26 6 K = K 32 := jK_eq (t := 32) (by decide)
theorem jK_26_7 (K : Nat → Prop) : jK 26 7 K = K 33 := jK_eq (t := 33) (by decide)
theorem jK_26_8 (K : Nat → Prop) : jK 26 8 K = K 34 := jK_eq (t := 34) (by decide)
theorem jK_26_9 (K : Nat → Prop) : jK 26 9 K = K 35 := jK_eq (t := 35) (by decide)
theorem jK_26_11 (K : Nat → Prop) : jK 26 11 K = K 37 := jK_eq (t := 37) (by decide)
theorem jK_26_14 (K : Nat → Prop) : jK 26 14 K = K 40 := jK_eq (t := 40) (by decide)
theorem jK_26_15 (K : Nat → Prop) : jK 26 15 K = K 41 := jK_eq (t := 41) (by decide)
theorem jK_26_58 (K : Nat → Prop) : jK 26 58 K = K 84 := jK_eq (t := 84) (by decide)
theorem jK_26_64 (K : Nat → Prop) : jK 26 64 K = K 90 := jK_eq (t := 90) (by decide)
theorem jK_26_175 (K : Nat → Prop) : jK 26 175 K = K 201 := jK_eq (t := 201) (by decide)
theorem jK_27_4 (K : Nat → Prop) : jK 27 4 K = K 31 := jK_eq (t := 31) (by decide)
theorem jK_27_7 (K : Nat → Prop) : jK 27 7 K = K 34 := jK_eq (t := 34) (by decide)
theorem jK_27_18 (K : Nat → Prop) : jK 27 18 K = K 45 := jK_eq (t := 45) (by decide)
theorem jK_27_27 (K : Nat → Prop) : jK 27 27 K = K 54 := jK_eq (t := 54) (by decide)
theorem jK_27_56 (K : Nat → Prop) : jK 27 56 K = K 83 := jK_eq (t := 83) (by decide)
theorem jK_28_5 (K : Nat → Prop) : jK 28 5 K = K 33 := jK_eq (t := 33) (by decide)
theorem jK_28_6 (K : Nat → Prop) : jK 28 6 K = K 34 := jK_eq (t := 34) (by decide)
theorem jK_28_8 (K : Nat → Prop) : jK 28 8 K = K 36 := jK_eq (t := 36) (by decide)
theorem jK_28_14 (K : Nat → Prop) : jK 28 14 K = K 42 := jK_eq (t := 42) (by decide)
theorem jK_28_28 (K : Nat → Prop) : jK 28 28 K = K 56 := jK_eq (t := 56) (by decide)
theorem jK_29_7 (K : Nat → Prop) : jK 29 7 K = K 36 := jK_eq (t := 36) (by decide)
theorem jK_29_9 (K : Nat → Prop) : jK 29 9 K = K 38 := jK_eq (t := 38) (by decide)
theorem jK_29_29 (K : Nat → Prop) : jK 29 29 K = K 58 := jK_eq (t := 58) (by decide)
theorem jK_29_38 (K : Nat → Prop) : jK 29 38 K = K 67 := jK_eq (t := 67) (by decide)
theorem jK_30_4 (K : Nat → Prop) : jK 30 4 K = K 34 := jK_eq (t := 34) (by decide)
theorem jK_30_5 (K : Nat → Prop) : jK 30 5 K = K 35 := jK_eq (t := 35) (by decide)
theorem jK_30_6 (K : Nat → Prop) : jK 30 6 K = K 36 := jK_eq (t := 36) (by decide)
theorem jK_30_7 (K : Nat → Prop) : jK 30 7 K = K 37 := jK_eq (t := 37) (by decide)
theorem jK_30_28 (K : Nat → Prop) : jK 30 28 K = K 58 := jK_eq (t := 58) (by decide)
theorem jK_30_34 (K : Nat → Prop) : jK 30 34 K = K 64 := jK_eq (t := 64) (by decide)
theorem jK_30_68 (K : Nat → Prop) : jK 30 68 K = K 98 := jK_eq (t := 98) (by decide)
theorem jK_31_4 (K : Nat → Prop) : jK 31 4 K = K 35 := jK_eq (t := 35) (by decide)
theorem jK_31_6 (K : Nat → Prop) : jK 31 6 K = K 37 := jK_eq (t := 37) (by decide)
theorem jK_31_7 (K : Nat → Prop) : jK 31 7 K = K 38 := jK_eq (t := 38) (by decide)
theorem jK_31_8 (K : Nat → Prop) : jK 31 8 K = K 39 := jK_eq (t := 39) (by decide)
theorem jK_31_13 (K : Nat → Prop) : jK 31 13 K = K 44 := jK_eq (t := 44) (by decide)
theorem jK_31_17 (K : Nat → Prop) : jK 31 17 K = K 48 := jK_eq (t := 48) (by decide)
theorem jK_31_22 (K : Nat → Prop) : jK 31 22 K = K 53 := jK_eq (t := 53) (by decide)
theorem jK_31_24 (K : Nat → Prop) : jK 31 24 K = K 55 := jK_eq (t := 55) (by decide)
theorem jK_31_46 (K : Nat → Prop) : jK 31 46 K = K 77 := jK_eq (t := 77) (by decide)
theorem jK_31_71 (K : Nat → Prop) : jK 31 71 K = K 102 := jK_eq (t := 102) (by decide)
theorem jK_32_m30 (K : Nat → Prop) : jK 32 (-30) K = K 2 := jK_eq (t := 2) (by decide)
theorem jK_32_m28 (K : Nat → Prop) : jK 32 (-28) K = K 4 := jK_eq (t := 4) (by decide)
theorem jK_32_4 (K : Nat → Prop) : jK 32 4 K = K 36 := jK_eq (t := 36) (by decide)
theorem jK_32_6 (K : Nat → Prop) : jK 32 6 K = K 38 := jK_eq (t := 38) (by decide)
theorem jK_32_7 (K : Nat → Prop) : jK 32 7 K = K 39 := jK_eq (t := 39) (by decide)
theorem jK_32_9 (K : Nat → Prop) : jK 32 9 K = K 41 := jK_eq (t := 41) (by decide)
theorem jK_32_10 (K : Nat → Prop) : jK 32 10 K = K 42 := jK_eq (t := 42) (by decide)
theorem jK_32_12 (K : Nat → Prop) : jK 32 12 K = K 44 := jK_eq (t := 44) (by decide)
theorem jK_32_17 (K : Nat → Prop) : jK 32 17 K = K 49 := jK_eq (t := 49) (by decide)
theorem jK_32_20 (K : Nat → Prop) : jK 32 20 K = K 52 := jK_eq (t := 52) (by decide)
theorem jK_32_29 (K : Nat → Prop) : jK 32 29 K = K 61 := jK_eq (t := 61) (by decide)
theorem jK_32_61 (K : Nat → Prop) : jK 32 61 K = K 93 := jK_eq (t := 93) (by decide)
theorem jK_32_76 (K : Nat → Prop) : jK 32 76 K = K 108 := jK_eq (t := 108) (by decide)
theorem jK_32_156 (K : Nat → Prop) : jK 32 156 K = K 188 := jK_eq (t := 188) (by decide)
theorem jK_33_m28 (K : Nat → Prop) : jK 33 (-28) K = K 5 := jK_eq (t := 5) (by decide)
theorem jK_33_4 (K : Nat → Prop) : jK 33 4 K = K 37 := jK_eq (t := 37) (by decide)
theorem jK_33_5 (K : Nat → Prop) : jK 33 5 K = K 38 := jK_eq (t := 38) (by decide)
theorem jK_33_10 (K : Nat → Prop) : jK 33 10 K = K 43 := jK_eq (t := 43) (by decide)
theorem jK_33_15 (K : Nat → Prop) : jK 33 15 K = K 48 := jK_eq (t := 48) (by decide)
theorem jK_33_28 (K : Nat → Prop) : jK 33 28 K = K 61 := jK_eq (t := 61) (by decide)
theorem jK_33_30 (K : Nat → Prop) : jK 33 30 K = K 63 := jK_eq (t := 63) (by decide)
theorem jK_33_37 (K : Nat → Prop) : jK 33 37 K = K 70 := jK_eq (t := 70) (by decide)
theorem jK_33_47 (K : Nat → Prop) : jK 33 47 K = K 80 := jK_eq (t := 80) (by decide)
theorem jK_33_207 (K : Nat → Prop) : jK 33 207 K = K 240 := jK_eq (t := 240) (by decide)
theorem jK_33_240 (K : Nat → Prop) : jK 33 240 K = K 273 := jK_eq (t := 273) (by decide)
theorem jK_33_273 (K : Nat → Prop) : jK 33 273 K = K 306 := jK_eq (t := 306) (by decide)
theorem jK_33_306 (K : Nat → Prop) : jK 33 306 K = K 339 := jK_eq (t := 339) (by decide)
theorem jK_33_339 (K : Nat → Prop) : jK 33 339 K = K 372 := jK_eq (t := 372) (by decide)
theorem jK_33_392 (K : Nat → Prop) : jK 33 392 K = K 425 := jK_eq (t := 425) (by decide)
theorem jK_33_425 (K : Nat → Prop) : jK 33 425 K = K 458 := jK_eq (t := 458) (by decide)
theorem jK_33_458 (K : Nat → Prop) : jK 33 458 K = K 491 := jK_eq (t := 491) (by decide)
theorem jK_33_491 (K : Nat → Prop) : jK 33 491 K = K 524 := jK_eq (t := 524) (by decide)
theorem jK_33_524 (K : Nat → Prop) : jK 33 524 K = K 557 := jK_eq (t := 557) (by decide)
theorem jK_33_557 (K : Nat → Prop) : jK 33 557 K = K 590 := jK_eq (t := 590) (by decide)
theorem jK_33_591 (K : Nat → Prop) : jK 33 591 K = K 624 := jK_eq (t := 624) (by decide)
theorem jK_33_625 (K : Nat → Prop) : jK 33 625 K = K 658 := jK_eq (t := 658) (by decide)
theorem jK_33_688 (K : Nat → Prop) : jK 33 688 K = K 721 := jK_eq (t := 721) (by decide)
theorem jK_33_701 (K : Nat → Prop) : jK 33 701 K = K 734 := jK_eq (t := 734) (by decide)
theorem jK_33_734 (K : Nat → Prop) : jK 33 734 K = K 767 := jK_eq (t := 767) (by decide)
theorem jK_33_788 (K : Nat → Prop) : jK 33 788 K = K 821 := jK_eq (t := 821) (by decide)
theorem jK_33_821 (K : Nat → Prop) : jK 33 821 K = K 854 := jK_eq (t := 854) (by decide)
theorem jK_33_844 (K : Nat → Prop) : jK 33 844 K = K 877 := jK_eq (t := 877) (by decide)
theorem jK_33_907 (K : Nat → Prop) : jK 33 907 K = K 940 := jK_eq (t := 940) (by decide)
theorem jK_33_950 (K : Nat → Prop) : jK 33 950 K = K 983 := jK_eq (t := 983) (by decide)
theorem jK_33_993 (K : Nat → Prop) : jK 33 993 K = K 1026 := jK_eq (t := 1026) (by decide)
theorem jK_33_1046 (K : Nat → Prop) : jK 33 1046 K = K 1079 := jK_eq (t := 1079) (by decide)
theorem jK_33_1069 (K : Nat → Prop) : jK 33 1069 K = K 1102 := jK_eq (t := 1102) (by decide)
theorem jK_33_1102 (K : Nat → Prop) : jK 33 1102 K = K 1135 := jK_eq (t := 1135) (by decide)
theorem jK_33_1115 (K : Nat → Prop) : jK 33 1115 K = K 1148 := jK_eq (t := 1148) (by decide)
theorem jK_33_1158 (K : Nat → Prop) : jK 33 1158 K = K 1191 := jK_eq (t := 1191) (by decide)
theorem jK_33_1181 (K : Nat → Prop) : jK 33 1181 K = K 1214 := jK_eq (t := 1214) (by decide)
theorem jK_33_1224 (K : Nat → Prop) : jK 33 1224 K = K 1257 := jK_eq (t := 1257) (by decide)
theorem jK_33_1237 (K : Nat → Prop) : jK 33 1237 K = K 1270 := jK_eq (t := 1270) (by decide)
theorem jK_33_1270 (K : Nat → Prop) : jK 33 1270 K = K 1303 := jK_eq (t := 1303) (by decide)
theorem jK_33_1313 (K : Nat → Prop) : jK 33 1313 K = K 1346 := jK_eq (t := 1346) (by decide)
theorem jK_33_1366 (K : Nat → Prop) : jK 33 1366 K = K 1399 := jK_eq (t := 1399) (by decide)
theorem jK_33_1389 (K : Nat → Prop) : jK 33 1389 K = K 1422 := jK_eq (t := 1422) (by decide)
theorem jK_33_1432 (K : Nat → Prop) : jK 33 1432 K = K 1465 := jK_eq (t := 1465) (by decide)
theorem jK_33_1475 (K : Nat → Prop) : jK 33 1475 K = K 1508 := jK_eq (t := 1508) (by decide)
theorem jK_33_1498 (K : Nat → Prop) : jK 33 1498 K = K 1531 := jK_eq (t := 1531) (by decide)
theorem jK_33_1541 (K : Nat → Prop) : jK 33 1541 K = K 1574 := jK_eq (t := 1574) (by decide)
theorem jK_33_1574 (K : Nat → Prop) : jK 33 1574 K = K 1607 := jK_eq (t := 1607) (by decide)
theorem jK_33_1597 (K : Nat → Prop) : jK 33 1597 K = K 1630 := jK_eq (t := 1630) (by decide)
theorem jK_33_1620 (K : Nat → Prop) : jK 33 1620 K = K 1653 := jK_eq (t := 1653) (by decide)
theorem jK_33_1663 (K : Nat → Prop) : jK 33 1663 K = K 1696 := jK_eq (t := 1696) (by decide)
theorem jK_33_1687 (K : Nat → Prop) : jK 33 1687 K = K 1720 := jK_eq (t := 1720) (by decide)
theorem jK_33_1710 (K : Nat → Prop) : jK 33 1710 K = K 1743 := jK_eq (t := 1743) (by decide)
theorem jK_33_1753 (K : Nat → Prop) : jK 33 1753 K = K 1786 := jK_eq (t := 1786) (by decide)
theorem jK_33_1796 (K : Nat → Prop) : jK 33 1796 K = K 1829 := jK_eq (t := 1829) (by decide)
theorem jK_33_1859 (K : Nat → Prop) : jK 33 1859 K = K 1892 := jK_eq (t := 1892) (by decide)
theorem jK_33_1922 (K : Nat → Prop) : jK 33 1922 K = K 1955 := jK_eq (t := 1955) (by decide)
theorem jK_33_1955 (K : Nat → Prop) : jK 33 1955 K = K 1988 := jK_eq (t := 1988) (by decide)
theorem jK_34_m30 (K : Nat → Prop) : jK 34 (-30) K = K 4 := jK_eq (t := 4) (by decide)
theorem jK_34_4 (K : Nat → Prop) : jK 34 4 K = K 38 := jK_eq (t := 38) (by decide)
theorem jK_34_5 (K : Nat → Prop) : jK 34 5 K = K 39 := jK_eq (t := 39) (by decide)
theorem jK_34_6 (K : Nat → Prop) : jK 34 6 K = K 40 := jK_eq (t := 40) (by decide)
theorem jK_34_7 (K : Nat → Prop) : jK 34 7 K = K 41 := jK_eq (t := 41) (by decide)
theorem jK_34_10 (K : Nat → Prop) : jK 34 10 K = K 44 := jK_eq (t := 44) (by decide)
theorem jK_34_32 (K : Nat → Prop) : jK 34 32 K = K 66 := jK_eq (t := 66) (by decide)
theorem jK_35_m31 (K : Nat → Prop) : jK 35 (-31) K = K 4 := jK_eq (t := 4) (by decide)
theorem jK_35_4 (K : Nat → Prop) : jK 35 4 K = K 39 := jK_eq (t := 39) (by decide)
theorem jK_35_5 (K : Nat → Prop) : jK 35 5 K = K 40 := jK_eq (t := 40) (by decide)
theorem jK_35_6 (K : Nat → Prop) : jK 35 6 K = K 41 := jK_eq (t := 41) (by decide)
theorem jK_35_7 (K : Nat → Prop) : jK 35 7 K = K 42 := jK_eq (t := 42) (by decide)
theorem jK_35_12 (K : Nat → Prop) : jK 35 12 K = K 47 := jK_eq (t := 47) (by decide)
theorem jK_35_13 (K : Nat → Prop) : jK 35 13 K = K 48 := jK_eq (t := 48) (by decide)
theorem jK_35_15 (K : Nat → Prop) : jK 35 15 K = K 50 := jK_eq (t := 50) (by decide)
theorem jK_35_16 (K : Nat → Prop) : jK 35 16 K = K 51 := jK_eq (t := 51) (by decide)
theorem jK_35_37 (K : Nat → Prop) : jK 35 37 K = K 72 := jK_eq (t := 72) (by decide)
theorem jK_35_45 (K : Nat → Prop) : jK 35 45 K = K 80 := jK_eq (t := 80) (by decide)
theorem jK_35_73 (K : Nat → Prop) : jK 35 73 K = K 108 := jK_eq (t := 108) (by decide)
theorem jK_36_m34 (K : Nat → Prop) : jK 36 (-34) K = K 2 := jK_eq (t := 2) (by decide)
theorem jK_36_m31 (K : Nat → Prop) : jK 36 (-31) K = K 5 := jK_eq (t := 5) (by decide)
theorem jK_36_m28 (K : Nat → Prop) : jK 36 (-28) K = K 8 := jK_eq (t := 8) (by decide)
theorem jK_36_4 (K : Nat → Prop) : jK 36 4 K = K 40 := jK_eq (t := 40) (by decide)
theorem jK_36_5 (K : Nat → Prop) : jK 36 5 K = K 41 := jK_eq (t := 41) (by decide)
theorem jK_36_6 (K : Nat → Prop) : jK 36 6 K = K 42 := jK_eq (t := 42) (by decide)
theorem jK_36_7 (K : Nat → Prop) : jK 36 7 K = K 43 := jK_eq (t := 43) (by decide)
theorem jK_36_11 (K : Nat → Prop) : jK 36 11 K = K 47 := jK_eq (t := 47) (by decide)
theorem jK_36_12 (K : Nat → Prop) : jK 36 12 K = K 48 := jK_eq (t := 48) (by decide)
theorem jK_36_16 (K : Nat → Prop) : jK 36 16 K = K 52 := jK_eq (t := 52) (by decide)
theorem jK_36_18 (K : Nat → Prop) : jK 36 18 K = K 54 := jK_eq (t := 54) (by decide)
theorem jK_36_60 (K : Nat → Prop) : jK 36 60 K = K 96 := jK_eq (t := 96) (by decide)
theorem jK_37_m37 (K : Nat → Prop) : jK 37 (-37) K = K 0 := jK_eq (t := 0) (by decide)
theorem jK_37_5 (K : Nat → Prop) : jK 37 5 K = K 42 := jK_eq (t := 42) (by decide)
theorem jK_37_6 (K : Nat → Prop) : jK 37 6 K = K 43 := jK_eq (t := 43) (by decide)
theorem jK_37_8 (K : Nat → Prop) : jK 37 8 K = K 45 := jK_eq (t := 45) (by decide)
theorem jK_37_13 (K : Nat → Prop) : jK 37 13 K = K 50 := jK_eq (t := 50) (by decide)
theorem jK_37_132 (K : Nat → Prop) : jK 37 132 K = K 169 := jK_eq (t := 169) (by decide)
theorem jK_37_158 (K : Nat → Prop) : jK 37 158 K = K 195 := jK_eq (t := 195) (by decide)
theorem jK_38_m33 (K : Nat → Prop) : jK 38 (-33) K = K 5 := jK_eq (t := 5) (by decide)
theorem jK_38_4 (K : Nat → Prop) : jK 38 4 K = K 42 := jK_eq (t := 42) (by decide)
theorem jK_38_6 (K : Nat → Prop) : jK 38 6 K = K 44 := jK_eq (t := 44) (by decide)
theorem jK_38_7 (K : Nat → Prop) : jK 38 7 K = K 45 := jK_eq (t := 45) (by decide)
theorem jK_38_11 (K : Nat → Prop) : jK 38 11 K = K 49 := jK_eq (t := 49) (by decide)
theorem jK_39_m35 (K : Nat → Prop) : jK 39 (-35) K = K 4 := jK_eq (t := 4) (by decide)
theorem jK_39_m23 (K : Nat → Prop) : jK 39 (-23) K = K 16 := jK_eq (t := 16) (by decide)
theorem jK_39_4 (K : Nat → Prop) : jK 39 4 K = K 43 := jK_eq (t := 43) (by decide)
theorem jK_39_5 (K : Nat → Prop) : jK 39 5 K = K 44 := jK_eq (t := 44) (by decide)
theorem jK_39_6 (K : Nat → Prop) : jK 39 6 K = K 45 := jK_eq (t := 45) (by decide)
theorem jK_39_7 (K : Nat → Prop) : jK 39 7 K = K 46 := jK_eq (t := 46) (by decide)
theorem jK_39_19 (K : Nat → Prop) : jK 39 19 K = K 58 := jK_eq (t := 58) (by decide)
theorem jK_39_28 (K : Nat → Prop) : jK 39 28 K = K 67 := jK_eq (t := 67) (by decide)
theorem jK_39_70 (K : Nat → Prop) : jK 39 70 K = K 109 := jK_eq (t := 109) (by decide)
theorem jK_40_4 (K : Nat → Prop) : jK 40 4 K = K 44 := jK_eq (t := 44) (by decide)
theorem jK_40_6 (K : Nat → Prop) : jK 40 6 K = K 46 := jK_eq (t := 46) (by decide)
theorem jK_40_20 (K : Nat → Prop) : jK 40 20 K = K 60 := jK_eq (t := 60) (by decide)
theorem jK_40_40 (K : Nat → Prop) : jK 40 40 K = K 80 := jK_eq (t := 80) (by decide)
theorem jK_40_56 (K : Nat → Prop) : jK 40 56 K = K 96 := jK_eq (t := 96) (by decide)
theorem jK_40_59 (K : Nat → Prop) : jK 40 59 K = K 99 := jK_eq (t := 99) (by decide)
theorem jK_41_m36 (K : Nat → Prop) : jK 41 (-36) K = K 5 := jK_eq (t := 5) (by decide)
theorem jK_41_6 (K : Nat → Prop) : jK 41 6 K = K 47 := jK_eq (t := 47) (by decide)
theorem jK_41_7 (K : Nat → Prop) : jK 41 7 K = K 48 := jK_eq (t := 48) (by decide)
theorem jK_41_12 (K : Nat → Prop) : jK 41 12 K = K 53 := jK_eq (t := 53) (by decide)
theorem jK_41_18 (K : Nat → Prop) : jK 41 18 K = K 59 := jK_eq (t := 59) (by decide)
theorem jK_42_m38 (K : Nat → Prop) : jK 42 (-38) K = K 4 := jK_eq (t := 4) (by decide)
theorem jK_42_m35 (K : Nat → Prop) : jK 42 (-35) K = K 7 := jK_eq (t := 7) (by decide)
theorem jK_42_m22 (K : Nat → Prop) : jK 42 (-22) K = K 20 := jK_eq (t := 20) (by decide)
theorem jK_42_4 (K : Nat → Prop) : jK 42 4 K = K 46 := jK_eq (t := 46) (by decide)
theorem jK_42_6 (K : Nat → Prop) : jK 42 6 K = K 48 := jK_eq (t := 48) (by decide)
theorem jK_42_10 (K : Nat → Prop) : jK 42 10 K = K 52 := jK_eq (t := 52) (by decide)
theorem jK_42_11 (K : Nat → Prop) : jK 42 11 K = K 53 := jK_eq (t := 53) (by decide)
theorem jK_42_13 (K : Nat → Prop) : jK 42 13 K = K 55 := jK_eq (t := 55) (by decide)
theorem jK_42_21 (K : Nat → Prop) : jK 42 21 K = K 63 := jK_eq (t := 63) (by decide)
theorem jK_42_42 (K : Nat → Prop) : jK 42 42 K = K 84 := jK_eq (t := 84) (by decide)
theorem jK_43_m37 (K : Nat → Prop) : jK 43 (-37) K = K 6 := jK_eq (t := 6) (by decide)
theorem jK_43_6 (K : Nat → Prop) : jK 43 6 K = K 49 := jK_eq (t := 49) (by decide)
theorem jK_43_7 (K : Nat → Prop) : jK 43 7 K = K 50 := jK_eq (t := 50) (by decide)
theorem jK_43_31 (K : Nat → Prop) : jK 43 31 K = K 74 := jK_eq (t := 74) (by decide)
theorem jK_43_40 (K : Nat → Prop) : jK 43 40 K = K 83 := jK_eq (t := 83) (by decide)
theorem jK_44_5 (K : Nat → Prop) : jK 44 5 K = K 49 := jK_eq (t := 49) (by decide)
theorem jK_44_6 (K : Nat → Prop) : jK 44 6 K = K 50 := jK_eq (t := 50) (by decide)
theorem jK_44_12 (K : Nat → Prop) : jK 44 12 K = K 56 := jK_eq (t := 56) (by decide)
theorem jK_44_15 (K : Nat → Prop) : jK 44 15 K = K 59 := jK_eq (t := 59) (by decide)
theorem jK_44_33 (K : Nat → Prop) : jK 44 33 K = K 77 := jK_eq (t := 77) (by decide)
theorem jK_45_m43 (K : Nat → Prop) : jK 45 (-43) K = K 2 := jK_eq (t := 2) (by decide)
theorem jK_45_4 (K : Nat → Prop) : jK 45 4 K = K 49 := jK_eq (t := 49) (by decide)
theorem jK_45_5 (K : Nat → Prop) : jK 45 5 K = K 50 := jK_eq (t := 50) (by decide)
theorem jK_45_6 (K : Nat → Prop) : jK 45 6 K = K 51 := jK_eq (t := 51) (by decide)
theorem jK_45_7 (K : Nat → Prop) : jK 45 7 K = K 52 := jK_eq (t := 52) (by decide)
theorem jK_45_8 (K : Nat → Prop) : jK 45 8 K = K 53 := jK_eq (t := 53) (by decide)
theorem jK_45_23 (K : Nat → Prop) : jK 45 23 K = K 68 := jK_eq (t := 68) (by decide)
theorem jK_45_89 (K : Nat → Prop) : jK 45 89 K = K 134 := jK_eq (t := 134) (by decide)
theorem jK_46_5 (K : Nat → Prop) : jK 46 5 K = K 51 := jK_eq (t := 51) (by decide)
theorem jK_46_6 (K : Nat → Prop) : jK 46 6 K = K 52 := jK_eq (t := 52) (by decide)
theorem jK_46_7 (K : Nat → Prop) : jK 46 7 K = K 53 := jK_eq (t := 53) (by decide)
theorem jK_46_9 (K : Nat → Prop) : jK 46 9 K = K 55 := jK_eq (t := 55) (by decide)
theorem jK_46_26 (K : Nat → Prop) : jK 46 26 K = K 72 := jK_eq (t := 72) (by decide)
theorem jK_46_28 (K : Nat → Prop) : jK 46 28 K = K 74 := jK_eq (t := 74) (by decide)
theorem jK_47_m45 (K : Nat → Prop) : jK 47 (-45) K = K 2 := jK_eq (t := 2) (by decide)
theorem jK_47_m32 (K : Nat → Prop) : jK 47 (-32) K = K 15 := jK_eq (t := 15) (by decide)
theorem jK_47_4 (K : Nat → Prop) : jK 47 4 K = K 51 := jK_eq (t := 51) (by decide)
theorem jK_47_6 (K : Nat → Prop) : jK 47 6 K = K 53 := jK_eq (t := 53) (by decide)
theorem jK_47_7 (K : Nat → Prop) : jK 47 7 K = K 54 := jK_eq (t := 54) (by decide)
theorem jK_47_14 (K : Nat → Prop) : jK 47 14 K = K 61 := jK_eq (t := 61) (by decide)
theorem jK_47_16 (K : Nat → Prop) : jK 47 16 K = K 63 := jK_eq (t := 63) (by decide)
theorem jK_47_40 (K : Nat → Prop) : jK 47 40 K = K 87 := jK_eq (t := 87) (by decide)
theorem jK_47_48 (K : Nat → Prop) : jK 47 48 K = K 95 := jK_eq (t := 95) (by decide)
theorem jK_47_148 (K : Nat → Prop) : jK 47 148 K = K 195 := jK_eq (t := 195) (by decide)
theorem jK_48_5 (K : Nat → Prop) : jK 48 5 K = K 53 := jK_eq (t := 53) (by decide)
theorem jK_48_6 (K : Nat → Prop) : jK 48 6 K = K 54 := jK_eq (t := 54) (by decide)
theorem jK_48_9 (K : Nat → Prop) : jK 48 9 K = K 57 := jK_eq (t := 57) (by decide)
theorem jK_48_11 (K : Nat → Prop) : jK 48 11 K = K 59 := jK_eq (t := 59) (by decide)
theorem jK_48_22 (K : Nat → Prop) : jK 48 22 K = K 70 := jK_eq (t := 70) (by decide)
theorem jK_48_23 (K : Nat → Prop) : jK 48 23 K = K 71 := jK_eq (t := 71) (by decide)
theorem jK_48_74 (K : Nat → Prop) : jK 48 74 K = K 122 := jK_eq (t := 122) (by decide)
theorem jK_49_m49 (K : Nat → Prop) : jK 49 (-49) K = K 0 := jK_eq (t := 0) (by decide)
theorem jK_49_4 (K : Nat → Prop) : jK 49 4 K = K 53 := jK_eq (t := 53) (by decide)
theorem jK_49_5 (K : Nat → Prop) : jK 49 5 K = K 54 := jK_eq (t := 54) (by decide)
theorem jK_49_6 (K : Nat → Prop) : jK 49 6 K = K 55 := jK_eq (t := 55) (by decide)
theorem jK_49_7 (K : Nat → Prop) : jK 49 7 K = K 56 := jK_eq (t := 56) (by decide)
theorem jK_49_10 (K : Nat → Prop) : jK 49 10 K = K 59 := jK_eq (t := 59) (by decide)
theorem jK_49_11 (K : Nat → Prop) : jK 49 11 K = K 60 := jK_eq (t := 60) (by decide)
theorem jK_49_14 (K : Nat → Prop) : jK 49 14 K = K 63 := jK_eq (t := 63) (by decide)
theorem jK_49_18 (K : Nat → Prop) : jK 49 18 K = K 67 := jK_eq (t := 67) (by decide)
theorem jK_50_4 (K : Nat → Prop) : jK 50 4 K = K 54 := jK_eq (t := 54) (by decide)
theorem jK_50_9 (K : Nat → Prop) : jK 50 9 K = K 59 := jK_eq (t := 59) (by decide)
theorem jK_50_16 (K : Nat → Prop) : jK 50 16 K = K 66 := jK_eq (t := 66) (by decide)
theorem jK_50_46 (K : Nat → Prop) : jK 50 46 K = K 96 := jK_eq (t := 96) (by decide)
theorem jK_50_53 (K : Nat → Prop) : jK 50 53 K = K 103 := jK_eq (t := 103) (by decide)
theorem jK_51_4 (K : Nat → Prop) : jK 51 4 K = K 55 := jK_eq (t := 55) (by decide)
theorem jK_51_6 (K : Nat → Prop) : jK 51 6 K = K 57 := jK_eq (t := 57) (by decide)
theorem jK_51_10 (K : Nat → Prop) : jK 51 10 K = K 61 := jK_eq (t := 61) (by decide)
theorem jK_51_21 (K : Nat → Prop) : jK 51 21 K = K 72 := jK_eq (t := 72) (by decide)
theorem jK_51_29 (K : Nat → Prop) : jK 51 29 K = K 80 := jK_eq (t := 80) (by decide)
theorem jK_52_m42 (K : Nat → Prop) : jK 52 (-42) K = K 10 := jK_eq (t := 10) (by decide)
theorem jK_52_6 (K : Nat → Prop) : jK 52 6 K = K 58 := jK_eq (t := 58) (by decide)
theorem jK_52_8 (K : Nat → Prop) : jK 52 8 K = K 60 := jK_eq (t := 60) (by decide)
theorem jK_52_9 (K : Nat → Prop) : jK 52 9 K = K 61 := jK_eq (t := 61) (by decide)
theorem jK_52_16 (K : Nat → Prop) : jK 52 16 K = K 68 := jK_eq (t := 68) (by decide)
theorem jK_53_4 (K : Nat → Prop) : jK 53 4 K = K 57 := jK_eq (t := 57) (by decide)
theorem jK_53_7 (K : Nat → Prop) : jK 53 7 K = K 60 := jK_eq (t := 60) (by decide)
theorem jK_53_43 (K : Nat → Prop) : jK 53 43 K = K 96 := jK_eq (t := 96) (by decide)
theorem jK_54_7 (K : Nat → Prop) : jK 54 7 K = K 61 := jK_eq (t := 61) (by decide)
theorem jK_54_8 (K : Nat → Prop) : jK 54 8 K = K 62 := jK_eq (t := 62) (by decide)
theorem jK_54_9 (K : Nat → Prop) : jK 54 9 K = K 63 := jK_eq (t := 63) (by decide)
theorem jK_54_16 (K : Nat → Prop) : jK 54 16 K = K 70 := jK_eq (t := 70) (by decide)
theorem jK_54_17 (K : Nat → Prop) : jK 54 17 K = K 71 := jK_eq (t := 71) (by decide)
theorem jK_54_41 (K : Nat → Prop) : jK 54 41 K = K 95 := jK_eq (t := 95) (by decide)
theorem jK_55_m48 (K : Nat → Prop) : jK 55 (-48) K = K 7 := jK_eq (t := 7) (by decide)
theorem jK_55_m37 (K : Nat → Prop) : jK 55 (-37) K = K 18 := jK_eq (t := 18) (by decide)
theorem jK_55_5 (K : Nat → Prop) : jK 55 5 K = K 60 := jK_eq (t := 60) (by decide)
theorem jK_55_6 (K : Nat → Prop) : jK 55 6 K = K 61 := jK_eq (t := 61) (by decide)
theorem jK_55_7 (K : Nat → Prop) : jK 55 7 K = K 62 := jK_eq (t := 62) (by decide)
theorem jK_55_12 (K : Nat → Prop) : jK 55 12 K = K 67 := jK_eq (t := 67) (by decide)
theorem jK_55_38 (K : Nat → Prop) : jK 55 38 K = K 93 := jK_eq (t := 93) (by decide)
theorem jK_56_m41 (K : Nat → Prop) : jK 56 (-41) K = K 15 := jK_eq (t := 15) (by decide)
theorem jK_56_6 (K : Nat → Prop) : jK 56 6 K = K 62 := jK_eq (t := 62) (by decide)
theorem jK_56_7 (K : Nat → Prop) : jK 56 7 K = K 63 := jK_eq (t := 63) (by decide)
theorem jK_56_8 (K : Nat → Prop) : jK 56 8 K = K 64 := jK_eq (t := 64) (by decide)
theorem jK_56_15 (K : Nat → Prop) : jK 56 15 K = K 71 := jK_eq (t := 71) (by decide)
theorem jK_56_81 (K : Nat → Prop) : jK 56 81 K = K 137 := jK_eq (t := 137) (by decide)
theorem jK_57_m53 (K : Nat → Prop) : jK 57 (-53) K = K 4 := jK_eq (t := 4) (by decide)
theorem jK_57_4 (K : Nat → Prop) : jK 57 4 K = K 61 := jK_eq (t := 61) (by decide)
theorem jK_57_7 (K : Nat → Prop) : jK 57 7 K = K 64 := jK_eq (t := 64) (by decide)
theorem jK_57_13 (K : Nat → Prop) : jK 57 13 K = K 70 := jK_eq (t := 70) (by decide)
theorem jK_57_15 (K : Nat → Prop) : jK 57 15 K = K 72 := jK_eq (t := 72) (by decide)
theorem jK_57_20 (K : Nat → Prop) : jK 57 20 K = K 77 := jK_eq (t := 77) (by decide)
theorem jK_57_34 (K : Nat → Prop) : jK 57 34 K = K 91 := jK_eq (t := 91) (by decide)
theorem jK_57_74 (K : Nat → Prop) : jK 57 74 K = K 131 := jK_eq (t := 131) (by decide)
theorem jK_57_138 (K : Nat → Prop) : jK 57 138 K = K 195 := jK_eq (t := 195) (by decide)
theorem jK_58_m54 (K : Nat → Prop) : jK 58 (-54) K = K 4 := jK_eq (t := 4) (by decide)
theorem jK_58_m47 (K : Nat → Prop) : jK 58 (-47) K = K 11 := jK_eq (t := 11) (by decide)
theorem jK_58_6 (K : Nat → Prop) : jK 58 6 K = K 64 := jK_eq (t := 64) (by decide)
theorem jK_58_9 (K : Nat → Prop) : jK 58 9 K = K 67 := jK_eq (t := 67) (by decide)
theorem jK_58_18 (K : Nat → Prop) : jK 58 18 K = K 76 := jK_eq (t := 76) (by decide)
theorem jK_58_26 (K : Nat → Prop) : jK 58 26 K = K 84 := jK_eq (t := 84) (by decide)
theorem jK_58_58 (K : Nat → Prop) : jK 58 58 K = K 116 := jK_eq (t := 116) (by decide)
theorem jK_59_m50 (K : Nat → Prop) : jK 59 (-50) K = K 9 := jK_eq (t := 9) (by decide)
theorem jK_59_m42 (K : Nat → Prop) : jK 59 (-42) K = K 17 := jK_eq (t := 17) (by decide)
theorem jK_59_4 (K : Nat → Prop) : jK 59 4 K = K 63 := jK_eq (t := 63) (by decide)
theorem jK_59_7 (K : Nat → Prop) : jK 59 7 K = K 66 := jK_eq (t := 66) (by decide)
theorem jK_59_8 (K : Nat → Prop) : jK 59 8 K = K 67 := jK_eq (t := 67) (by decide)
theorem jK_59_11 (K : Nat → Prop) : jK 59 11 K = K 70 := jK_eq (t := 70) (by decide)
theorem jK_59_14 (K : Nat → Prop) : jK 59 14 K = K 73 := jK_eq (t := 73) (by decide)
theorem jK_59_21 (K : Nat → Prop) : jK 59 21 K = K 80 := jK_eq (t := 80) (by decide)
theorem jK_59_23 (K : Nat → Prop) : jK 59 23 K = K 82 := jK_eq (t := 82) (by decide)
theorem jK_59_32 (K : Nat → Prop) : jK 59 32 K = K 91 := jK_eq (t := 91) (by decide)
theorem jK_60_4 (K : Nat → Prop) : jK 60 4 K = K 64 := jK_eq (t := 64) (by decide)
theorem jK_60_6 (K : Nat → Prop) : jK 60 6 K = K 66 := jK_eq (t := 66) (by decide)
theorem jK_60_7 (K : Nat → Prop) : jK 60 7 K = K 67 := jK_eq (t := 67) (by decide)
theorem jK_60_17 (K : Nat → Prop) : jK 60 17 K = K 77 := jK_eq (t := 77) (by decide)
theorem jK_60_39 (K : Nat → Prop) : jK 60 39 K = K 99 := jK_eq (t := 99) (by decide)
theorem jK_60_58 (K : Nat → Prop) : jK 60 58 K = K 118 := jK_eq (t := 118) (by decide)
theorem jK_61_m57 (K : Nat → Prop) : jK 61 (-57) K = K 4 := jK_eq (t := 4) (by decide)
theorem jK_61_m54 (K : Nat → Prop) : jK 61 (-54) K = K 7 := jK_eq (t := 7) (by decide)
theorem jK_61_4 (K : Nat → Prop) : jK 61 4 K = K 65 := jK_eq (t := 65) (by decide)
theorem jK_61_6 (K : Nat → Prop) : jK 61 6 K = K 67 := jK_eq (t := 67) (by decide)
theorem jK_61_7 (K : Nat → Prop) : jK 61 7 K = K 68 := jK_eq (t := 68) (by decide)
theorem jK_61_23 (K : Nat → Prop) : jK 61 23 K = K 84 := jK_eq (t := 84) (by decide)
theorem jK_61_35 (K : Nat → Prop) : jK 61 35 K = K 96 := jK_eq (t := 96) (by decide)
theorem jK_62_6 (K : Nat → Prop) : jK 62 6 K = K 68 := jK_eq (t := 68) (by decide)
theorem jK_62_15 (K : Nat → Prop) : jK 62 15 K = K 77 := jK_eq (t := 77) (by decide)
theorem jK_63_m43 (K : Nat → Prop) : jK 63 (-43) K = K 20 := jK_eq (t := 20) (by decide)
theorem jK_63_4 (K : Nat → Prop) : jK 63 4 K = K 67 := jK_eq (t := 67) (by decide)
theorem jK_63_7 (K : Nat → Prop) : jK 63 7 K = K 70 := jK_eq (t := 70) (by decide)
theorem jK_63_9 (K : Nat → Prop) : jK 63 9 K = K 72 := jK_eq (t := 72) (by decide)
theorem jK_63_119 (K : Nat → Prop) : jK 63 119 K = K 182 := jK_eq (t := 182) (by decide)
theorem jK_64_m60 (K : Nat → Prop) : jK 64 (-60) K = K 4 := jK_eq (t := 4) (by decide)
theorem jK_64_m51 (K : Nat → Prop) : jK 64 (-51) K = K 13 := jK_eq (t := 13) (by decide)
theorem jK_64_m49 (K : Nat → Prop) : jK 64 (-49) K = K 15 := jK_eq (t := 15) (by decide)
theorem jK_64_4 (K : Nat → Prop) : jK 64 4 K = K 68 := jK_eq (t := 68) (by decide)
theorem jK_64_8 (K : Nat → Prop) : jK 64 8 K = K 72 := jK_eq (t := 72) (by decide)
theorem jK_64_19 (K : Nat → Prop) : jK 64 19 K = K 83 := jK_eq (t := 83) (by decide)
theorem jK_64_32 (K : Nat → Prop) : jK 64 32 K = K 96 := jK_eq (t := 96) (by decide)
theorem jK_64_35 (K : Nat → Prop) : jK 64 35 K = K 99 := jK_eq (t := 99) (by decide)
theorem jK_64_98 (K : Nat → Prop) : jK 64 98 K = K 162 := jK_eq (t := 162) (by decide)
theorem jK_65_6 (K : Nat → Prop) : jK 65 6 K = K 71 := jK_eq (t := 71) (by decide)
theorem jK_65_7 (K : Nat → Prop) : jK 65 7 K = K 72 := jK_eq (t := 72) (by decide)
theorem jK_65_9 (K : Nat → Prop) : jK 65 9 K = K 74 := jK_eq (t := 74) (by decide)
theorem jK_65_13 (K : Nat → Prop) : jK 65 13 K = K 78 := jK_eq (t := 78) (by decide)
theorem jK_65_25 (K : Nat → Prop) : jK 65 25 K = K 90 := jK_eq (t := 90) (by decide)
theorem jK_65_69 (K : Nat → Prop) : jK 65 69 K = K 134 := jK_eq (t := 134) (by decide)
theorem jK_66_m62 (K : Nat → Prop) : jK 66 (-62) K = K 4 := jK_eq (t := 4) (by decide)
theorem jK_67_4 (K : Nat → Prop) : jK 67 4 K = K 71 := jK_eq (t := 71) (by decide)
theorem jK_67_6 (K : Nat → Prop) : jK 67 6 K = K 73 := jK_eq (t := 73) (by decide)
theorem jK_67_7 (K : Nat → Prop) : jK 67 7 K = K 74 := jK_eq (t := 74) (by decide)
theorem jK_67_13 (K : Nat → Prop) : jK 67 13 K = K 80 := jK_eq (t := 80) (by decide)
theorem jK_67_17 (K : Nat → Prop) : jK 67 17 K = K 84 := jK_eq (t := 84) (by decide)
theorem jK_68_6 (K : Nat → Prop) : jK 68 6 K = K 74 := jK_eq (t := 74) (by decide)
theorem jK_68_7 (K : Nat → Prop) : jK 68 7 K = K 75 := jK_eq (t := 75) (by decide)
theorem jK_68_63 (K : Nat → Prop) : jK 68 63 K = K 131 := jK_eq (t := 131) (by decide)
theorem jK_69_m37 (K : Nat → Prop) : jK 69 (-37) K = K 32 := jK_eq (t := 32) (by decide)
theorem jK_69_m28 (K : Nat → Prop) : jK 69 (-28) K = K 41 := jK_eq (t := 41) (by decide)
theorem jK_69_4 (K : Nat → Prop) : jK 69 4 K = K 73 := jK_eq (t := 73) (by decide)
theorem jK_69_5 (K : Nat → Prop) : jK 69 5 K = K 74 := jK_eq (t := 74) (by decide)
theorem jK_69_7 (K : Nat → Prop) : jK 69 7 K = K 76 := jK_eq (t := 76) (by decide)
theorem jK_69_8 (K : Nat → Prop) : jK 69 8 K = K 77 := jK_eq (t := 77) (by decide)
theorem jK_69_15 (K : Nat → Prop) : jK 69 15 K = K 84 := jK_eq (t := 84) (by decide)
theorem jK_69_22 (K : Nat → Prop) : jK 69 22 K = K 91 := jK_eq (t := 91) (by decide)
theorem jK_69_27 (K : Nat → Prop) : jK 69 27 K = K 96 := jK_eq (t := 96) (by decide)
theorem jK_69_30 (K : Nat → Prop) : jK 69 30 K = K 99 := jK_eq (t := 99) (by decide)
theorem jK_69_43 (K : Nat → Prop) : jK 69 43 K = K 112 := jK_eq (t := 112) (by decide)
theorem jK_70_m55 (K : Nat → Prop) : jK 70 (-55) K = K 15 := jK_eq (t := 15) (by decide)
theorem jK_70_6 (K : Nat → Prop) : jK 70 6 K = K 76 := jK_eq (t := 76) (by decide)
theorem jK_70_22 (K : Nat → Prop) : jK 70 22 K = K 92 := jK_eq (t := 92) (by decide)
theorem jK_71_5 (K : Nat → Prop) : jK 71 5 K = K 76 := jK_eq (t := 76) (by decide)
theorem jK_71_9 (K : Nat → Prop) : jK 71 9 K = K 80 := jK_eq (t := 80) (by decide)
theorem jK_71_14 (K : Nat → Prop) : jK 71 14 K = K 85 := jK_eq (t := 85) (by decide)
theorem jK_71_22 (K : Nat → Prop) : jK 71 22 K = K 93 := jK_eq (t := 93) (by decide)
theorem jK_71_28 (K : Nat → Prop) : jK 71 28 K = K 99 := jK_eq (t := 99) (by decide)
theorem jK_71_60 (K : Nat → Prop) : jK 71 60 K = K 131 := jK_eq (t := 131) (by decide)
theorem jK_71_124 (K : Nat → Prop) : jK 71 124 K = K 195 := jK_eq (t := 195) (by decide)
theorem jK_72_6 (K : Nat → Prop) : jK 72 6 K = K 78 := jK_eq (t := 78) (by decide)
theorem jK_73_4 (K : Nat → Prop) : jK 73 4 K = K 77 := jK_eq (t := 77) (by decide)
theorem jK_73_7 (K : Nat → Prop) : jK 73 7 K = K 80 := jK_eq (t := 80) (by decide)
theorem jK_73_8 (K : Nat → Prop) : jK 73 8 K = K 81 := jK_eq (t := 81) (by decide)
theorem jK_73_14 (K : Nat → Prop) : jK 73 14 K = K 87 := jK_eq (t := 87) (by decide)
theorem jK_73_43 (K : Nat → Prop) : jK 73 43 K = K 116 := jK_eq (t := 116) (by decide)
theorem jK_74_m74 (K : Nat → Prop) : jK 74 (-74) K = K 0 := jK_eq (t := 0) (by decide)
theorem jK_74_m68 (K : Nat → Prop) : jK 74 (-68) K = K 6 := jK_eq (t := 6) (by decide)
theorem jK_74_6 (K : Nat → Prop) : jK 74 6 K = K 80 := jK_eq (t := 80) (by decide)
theorem jK_74_7 (K : Nat → Prop) : jK 74 7 K = K 81 := jK_eq (t := 81) (by decide)
theorem jK_74_8 (K : Nat → Prop) : jK 74 8 K = K 82 := jK_eq (t := 82) (by decide)
theorem jK_74_21 (K : Nat → Prop) : jK 74 21 K = K 95 := jK_eq (t := 95) (by decide)
theorem jK_75_m71 (K : Nat → Prop) : jK 75 (-71) K = K 4 := jK_eq (t := 4) (by decide)
theorem jK_75_6 (K : Nat → Prop) : jK 75 6 K = K 81 := jK_eq (t := 81) (by decide)
theorem jK_75_7 (K : Nat → Prop) : jK 75 7 K = K 82 := jK_eq (t := 82) (by decide)
theorem jK_75_8 (K : Nat → Prop) : jK 75 8 K = K 83 := jK_eq (t := 83) (by decide)
theorem jK_75_21 (K : Nat → Prop) : jK 75 21 K = K 96 := jK_eq (t := 96) (by decide)
theorem jK_75_28 (K : Nat → Prop) : jK 75 28 K = K 103 := jK_eq (t := 103) (by decide)
theorem jK_76_m71 (K : Nat → Prop) : jK 76 (-71) K = K 5 := jK_eq (t := 5) (by decide)
theorem jK_76_6 (K : Nat → Prop) : jK 76 6 K = K 82 := jK_eq (t := 82) (by decide)
theorem jK_76_15 (K : Nat → Prop) : jK 76 15 K = K 91 := jK_eq (t := 91) (by decide)
theorem jK_76_23 (K : Nat → Prop) : jK 76 23 K = K 99 := jK_eq (t := 99) (by decide)
theorem jK_76_26 (K : Nat → Prop) : jK 76 26 K = K 102 := jK_eq (t := 102) (by decide)
theorem jK_77_m73 (K : Nat → Prop) : jK 77 (-73) K = K 4 := jK_eq (t := 4) (by decide)
theorem jK_77_m50 (K : Nat → Prop) : jK 77 (-50) K = K 27 := jK_eq (t := 27) (by decide)
theorem jK_77_m32 (K : Nat → Prop) : jK 77 (-32) K = K 45 := jK_eq (t := 45) (by decide)
theorem jK_77_m23 (K : Nat → Prop) : jK 77 (-23) K = K 54 := jK_eq (t := 54) (by decide)
theorem jK_77_7 (K : Nat → Prop) : jK 77 7 K = K 84 := jK_eq (t := 84) (by decide)
theorem jK_77_8 (K : Nat → Prop) : jK 77 8 K = K 85 := jK_eq (t := 85) (by decide)
theorem jK_77_10 (K : Nat → Prop) : jK 77 10 K = K 87 := jK_eq (t := 87) (by decide)
theorem jK_77_28 (K : Nat → Prop) : jK 77 28 K = K 105 := jK_eq (t := 105) (by decide)
theorem jK_77_30 (K : Nat → Prop) : jK 77 30 K = K 107 := jK_eq (t := 107) (by decide)
theorem jK_77_51 (K : Nat → Prop) : jK 77 51 K = K 128 := jK_eq (t := 128) (by decide)
theorem jK_77_100 (K : Nat → Prop) : jK 77 100 K = K 177 := jK_eq (t := 177) (by decide)
theorem jK_78_4 (K : Nat → Prop) : jK 78 4 K = K 82 := jK_eq (t := 82) (by decide)
theorem jK_78_8 (K : Nat → Prop) : jK 78 8 K = K 86 := jK_eq (t := 86) (by decide)
theorem jK_78_11 (K : Nat → Prop) : jK 78 11 K = K 89 := jK_eq (t := 89) (by decide)
theorem jK_78_16 (K : Nat → Prop) : jK 78 16 K = K 94 := jK_eq (t := 94) (by decide)
theorem jK_78_18 (K : Nat → Prop) : jK 78 18 K = K 96 := jK_eq (t := 96) (by decide)
theorem jK_78_29 (K : Nat → Prop) : jK 78 29 K = K 107 := jK_eq (t := 107) (by decide)
theorem jK_79_4 (K : Nat → Prop) : jK 79 4 K = K 83 := jK_eq (t := 83) (by decide)
theorem jK_79_7 (K : Nat → Prop) : jK 79 7 K = K 86 := jK_eq (t := 86) (by decide)
theorem jK_80_m56 (K : Nat → Prop) : jK 80 (-56) K = K 24 := jK_eq (t := 24) (by decide)
theorem jK_80_4 (K : Nat → Prop) : jK 80 4 K = K 84 := jK_eq (t := 84) (by decide)
theorem jK_81_7 (K : Nat → Prop) : jK 81 7 K = K 88 := jK_eq (t := 88) (by decide)
theorem jK_81_15 (K : Nat → Prop) : jK 81 15 K = K 96 := jK_eq (t := 96) (by decide)
theorem jK_81_21 (K : Nat → Prop) : jK 81 21 K = K 102 := jK_eq (t := 102) (by decide)
theorem jK_82_4 (K : Nat → Prop) : jK 82 4 K = K 86 := jK_eq (t := 86) (by decide)
theorem jK_82_7 (K : Nat → Prop) : jK 82 7 K = K 89 := jK_eq (t := 89) (by decide)
theorem jK_82_10 (K : Nat → Prop) : jK 82 10 K = K 92 := jK_eq (t := 92) (by decide)
theorem jK_82_17 (K : Nat → Prop) : jK 82 17 K = K 99 := jK_eq (t := 99) (by decide)
theorem jK_83_4 (K : Nat → Prop) : jK 83 4 K = K 87 := jK_eq (t := 87) (by decide)
theorem jK_83_7 (K : Nat → Prop) : jK 83 7 K = K 90 := jK_eq (t := 90) (by decide)
theorem jK_83_11 (K : Nat → Prop) : jK 83 11 K = K 94 := jK_eq (t := 94) (by decide)
theorem jK_84_7 (K : Nat → Prop) : jK 84 7 K = K 91 := jK_eq (t := 91) (by decide)
theorem jK_84_10 (K : Nat → Prop) : jK 84 10 K = K 94 := jK_eq (t := 94) (by decide)
theorem jK_84_78 (K : Nat → Prop) : jK 84 78 K = K 162 := jK_eq (t := 162) (by decide)
theorem jK_85_5 (K : Nat → Prop) : jK 85 5 K = K 90 := jK_eq (t := 90) (by decide)
theorem jK_85_7 (K : Nat → Prop) : jK 85 7 K = K 92 := jK_eq (t := 92) (by decide)
theorem jK_85_17 (K : Nat → Prop) : jK 85 17 K = K 102 := jK_eq (t := 102) (by decide)
theorem jK_85_21 (K : Nat → Prop) : jK 85 21 K = K 106 := jK_eq (t := 106) (by decide)
theorem jK_85_46 (K : Nat → Prop) : jK 85 46 K = K 131 := jK_eq (t := 131) (by decide)
theorem jK_86_m77 (K : Nat → Prop) : jK 86 (-77) K = K 9 := jK_eq (t := 9) (by decide)
theorem jK_86_4 (K : Nat → Prop) : jK 86 4 K = K 90 := jK_eq (t := 90) (by decide)
theorem jK_86_17 (K : Nat → Prop) : jK 86 17 K = K 103 := jK_eq (t := 103) (by decide)
theorem jK_86_79 (K : Nat → Prop) : jK 86 79 K = K 165 := jK_eq (t := 165) (by decide)
theorem jK_87_m87 (K : Nat → Prop) : jK 87 (-87) K = K 0 := jK_eq (t := 0) (by decide)
theorem jK_87_m63 (K : Nat → Prop) : jK 87 (-63) K = K 24 := jK_eq (t := 24) (by decide)
theorem jK_87_4 (K : Nat → Prop) : jK 87 4 K = K 91 := jK_eq (t := 91) (by decide)
theorem jK_87_8 (K : Nat → Prop) : jK 87 8 K = K 95 := jK_eq (t := 95) (by decide)
theorem jK_87_9 (K : Nat → Prop) : jK 87 9 K = K 96 := jK_eq (t := 96) (by decide)
theorem jK_88_m34 (K : Nat → Prop) : jK 88 (-34) K = K 54 := jK_eq (t := 54) (by decide)
theorem jK_88_4 (K : Nat → Prop) : jK 88 4 K = K 92 := jK_eq (t := 92) (by decide)
theorem jK_88_6 (K : Nat → Prop) : jK 88 6 K = K 94 := jK_eq (t := 94) (by decide)
theorem jK_88_28 (K : Nat → Prop) : jK 88 28 K = K 116 := jK_eq (t := 116) (by decide)
theorem jK_88_72 (K : Nat → Prop) : jK 88 72 K = K 160 := jK_eq (t := 160) (by decide)
theorem jK_89_4 (K : Nat → Prop) : jK 89 4 K = K 93 := jK_eq (t := 93) (by decide)
theorem jK_89_6 (K : Nat → Prop) : jK 89 6 K = K 95 := jK_eq (t := 95) (by decide)
theorem jK_89_18 (K : Nat → Prop) : jK 89 18 K = K 107 := jK_eq (t := 107) (by decide)
theorem jK_90_m66 (K : Nat → Prop) : jK 90 (-66) K = K 24 := jK_eq (t := 24) (by decide)
theorem jK_90_m23 (K : Nat → Prop) : jK 90 (-23) K = K 67 := jK_eq (t := 67) (by decide)
theorem jK_90_6 (K : Nat → Prop) : jK 90 6 K = K 96 := jK_eq (t := 96) (by decide)
theorem jK_90_12 (K : Nat → Prop) : jK 90 12 K = K 102 := jK_eq (t := 102) (by decide)
theorem jK_90_28 (K : Nat → Prop) : jK 90 28 K = K 118 := jK_eq (t := 118) (by decide)
theorem jK_91_52 (K : Nat → Prop) : jK 91 52 K = K 143 := jK_eq (t := 143) (by decide)
theorem jK_92_4 (K : Nat → Prop) : jK 92 4 K = K 96 := jK_eq (t := 96) (by decide)
theorem jK_92_8 (K : Nat → Prop) : jK 92 8 K = K 100 := jK_eq (t := 100) (by decide)
theorem jK_92_20 (K : Nat → Prop) : jK 92 20 K = K 112 := jK_eq (t := 112) (by decide)
theorem jK_93_7 (K : Nat → Prop) : jK 93 7 K = K 100 := jK_eq (t := 100) (by decide)
theorem jK_93_19 (K : Nat → Prop) : jK 93 19 K = K 112 := jK_eq (t := 112) (by decide)
theorem jK_93_34 (K : Nat → Prop) : jK 93 34 K = K 127 := jK_eq (t := 127) (by decide)
theorem jK_93_89 (K : Nat → Prop) : jK 93 89 K = K 182 := jK_eq (t := 182) (by decide)
theorem jK_94_6 (K : Nat → Prop) : jK 94 6 K = K 100 := jK_eq (t := 100) (by decide)
theorem jK_94_12 (K : Nat → Prop) : jK 94 12 K = K 106 := jK_eq (t := 106) (by decide)
theorem jK_94_43 (K : Nat → Prop) : jK 94 43 K = K 137 := jK_eq (t := 137) (by decide)
theorem jK_95_m69 (K : Nat → Prop) : jK 95 (-69) K = K 26 := jK_eq (t := 26) (by decide)
theorem jK_95_7 (K : Nat → Prop) : jK 95 7 K = K 102 := jK_eq (t := 102) (by decide)
theorem jK_96_m62 (K : Nat → Prop) : jK 96 (-62) K = K 34 := jK_eq (t := 34) (by decide)
theorem jK_96_6 (K : Nat → Prop) : jK 96 6 K = K 102 := jK_eq (t := 102) (by decide)
theorem jK_96_7 (K : Nat → Prop) : jK 96 7 K = K 103 := jK_eq (t := 103) (by decide)
theorem jK_96_38 (K : Nat → Prop) : jK 96 38 K = K 134 := jK_eq (t := 134) (by decide)
theorem jK_97_m94 (K : Nat → Prop) : jK 97 (-94) K = K 3 := jK_eq (t := 3) (by decide)
theorem jK_97_4 (K : Nat → Prop) : jK 97 4 K = K 101 := jK_eq (t := 101) (by decide)
theorem jK_97_5 (K : Nat → Prop) : jK 97 5 K = K 102 := jK_eq (t := 102) (by decide)
theorem jK_97_6 (K : Nat → Prop) : jK 97 6 K = K 103 := jK_eq (t := 103) (by decide)
theorem jK_97_62 (K : Nat → Prop) : jK 97 62 K = K 159 := jK_eq (t := 159) (by decide)
theorem jK_98_m89 (K : Nat → Prop) : jK 98 (-89) K = K 9 := jK_eq (t := 9) (by decide)
theorem jK_98_7 (K : Nat → Prop) : jK 98 7 K = K 105 := jK_eq (t := 105) (by decide)
theorem jK_99_m77 (K : Nat → Prop) : jK 99 (-77) K = K 22 := jK_eq (t := 22) (by decide)
theorem jK_99_32 (K : Nat → Prop) : jK 99 32 K = K 131 := jK_eq (t := 131) (by decide)
theorem jK_100_4 (K : Nat → Prop) : jK 100 4 K = K 104 := jK_eq (t := 104) (by decide)
theorem jK_100_7 (K : Nat → Prop) : jK 100 7 K = K 107 := jK_eq (t := 107) (by decide)
theorem jK_100_9 (K : Nat → Prop) : jK 100 9 K = K 109 := jK_eq (t := 109) (by decide)
theorem jK_100_10 (K : Nat → Prop) : jK 100 10 K = K 110 := jK_eq (t := 110) (by decide)
theorem jK_102_4 (K : Nat → Prop) : jK 102 4 K = K 106 := jK_eq (t := 106) (by decide)
theorem jK_102_28 (K : Nat → Prop) : jK 102 28 K = K 130 := jK_eq (t := 130) (by decide)
theorem jK_103_m23 (K : Nat → Prop) : jK 103 (-23) K = K 80 := jK_eq (t := 80) (by decide)
theorem jK_103_6 (K : Nat → Prop) : jK 103 6 K = K 109 := jK_eq (t := 109) (by decide)
theorem jK_103_7 (K : Nat → Prop) : jK 103 7 K = K 110 := jK_eq (t := 110) (by decide)
theorem jK_104_4 (K : Nat → Prop) : jK 104 4 K = K 108 := jK_eq (t := 108) (by decide)
theorem jK_104_6 (K : Nat → Prop) : jK 104 6 K = K 110 := jK_eq (t := 110) (by decide)
theorem jK_104_12 (K : Nat → Prop) : jK 104 12 K = K 116 := jK_eq (t := 116) (by decide)
theorem jK_104_27 (K : Nat → Prop) : jK 104 27 K = K 131 := jK_eq (t := 131) (by decide)
theorem jK_105_m82 (K : Nat → Prop) : jK 105 (-82) K = K 23 := jK_eq (t := 23) (by decide)
theorem jK_105_m73 (K : Nat → Prop) : jK 105 (-73) K = K 32 := jK_eq (t := 32) (by decide)
theorem jK_105_7 (K : Nat → Prop) : jK 105 7 K = K 112 := jK_eq (t := 112) (by decide)
theorem jK_105_8 (K : Nat → Prop) : jK 105 8 K = K 113 := jK_eq (t := 113) (by decide)
theorem jK_105_115 (K : Nat → Prop) : jK 105 115 K = K 220 := jK_eq (t := 220) (by decide)
theorem jK_106_m73 (K : Nat → Prop) : jK 106 (-73) K = K 33 := jK_eq (t := 33) (by decide)
theorem jK_106_12 (K : Nat → Prop) : jK 106 12 K = K 118 := jK_eq (t := 118) (by decide)
theorem jK_106_13 (K : Nat → Prop) : jK 106 13 K = K 119 := jK_eq (t := 119) (by decide)
theorem jK_106_16 (K : Nat → Prop) : jK 106 16 K = K 122 := jK_eq (t := 122) (by decide)
theorem jK_107_4 (K : Nat → Prop) : jK 107 4 K = K 111 := jK_eq (t := 111) (by decide)
theorem jK_107_23 (K : Nat → Prop) : jK 107 23 K = K 130 := jK_eq (t := 130) (by decide)
theorem jK_107_35 (K : Nat → Prop) : jK 107 35 K = K 142 := jK_eq (t := 142) (by decide)
theorem jK_109_6 (K : Nat → Prop) : jK 109 6 K = K 115 := jK_eq (t := 115) (by decide)
theorem jK_109_7 (K : Nat → Prop) : jK 109 7 K = K 116 := jK_eq (t := 116) (by decide)
theorem jK_109_18 (K : Nat → Prop) : jK 109 18 K = K 127 := jK_eq (t := 127) (by decide)
theorem jK_109_30 (K : Nat → Prop) : jK 109 30 K = K 139 := jK_eq (t := 139) (by decide)
theorem jK_110_7 (K : Nat → Prop) : jK 110 7 K = K 117 := jK_eq (t := 117) (by decide)
theorem jK_112_m108 (K : Nat → Prop) : jK 112 (-108) K = K 4 := jK_eq (t := 4) (by decide)
theorem jK_112_70 (K : Nat → Prop) : jK 112 70 K = K 182 := jK_eq (t := 182) (by decide)
theorem jK_113_18 (K : Nat → Prop) : jK 113 18 K = K 131 := jK_eq (t := 131) (by decide)
theorem jK_114_4 (K : Nat → Prop) : jK 114 4 K = K 118 := jK_eq (t := 118) (by decide)
theorem jK_115_m58 (K : Nat → Prop) : jK 115 (-58) K = K 57 := jK_eq (t := 57) (by decide)
theorem jK_116_4 (K : Nat → Prop) : jK 116 4 K = K 120 := jK_eq (t := 120) (by decide)
theorem jK_116_43 (K : Nat → Prop) : jK 116 43 K = K 159 := jK_eq (t := 159) (by decide)
theorem jK_117_5 (K : Nat → Prop) : jK 117 5 K = K 122 := jK_eq (t := 122) (by decide)
theorem jK_117_6 (K : Nat → Prop) : jK 117 6 K = K 123 := jK_eq (t := 123) (by decide)
theorem jK_117_7 (K : Nat → Prop) : jK 117 7 K = K 124 := jK_eq (t := 124) (by decide)
theorem jK_119_m77 (K : Nat → Prop) : jK 119 (-77) K = K 42 := jK_eq (t := 42) (by decide)
theorem jK_119_20 (K : Nat → Prop) : jK 119 20 K = K 139 := jK_eq (t := 139) (by decide)
theorem jK_121_m115 (K : Nat → Prop) : jK 121 (-115) K = K 6 := jK_eq (t := 6) (by decide)
theorem jK_121_5 (K : Nat → Prop) : jK 121 5 K = K 126 := jK_eq (t := 126) (by decide)
theorem jK_121_76 (K : Nat → Prop) : jK 121 76 K = K 197 := jK_eq (t := 197) (by decide)
theorem jK_123_7 (K : Nat → Prop) : jK 123 7 K = K 130 := jK_eq (t := 130) (by decide)
theorem jK_124_7 (K : Nat → Prop) : jK 124 7 K = K 131 := jK_eq (t := 131) (by decide)
theorem jK_124_38 (K : Nat → Prop) : jK 124 38 K = K 162 := jK_eq (t := 162) (by decide)
theorem jK_125_m52 (K : Nat → Prop) : jK 125 (-52) K = K 73 := jK_eq (t := 73) (by decide)
theorem jK_126_7 (K : Nat → Prop) : jK 126 7 K = K 133 := jK_eq (t := 133) (by decide)
theorem jK_127_4 (K : Nat → Prop) : jK 127 4 K = K 131 := jK_eq (t := 131) (by decide)
theorem jK_127_7 (K : Nat → Prop) : jK 127 7 K = K 134 := jK_eq (t := 134) (by decide)
theorem jK_130_8 (K : Nat → Prop) : jK 130 8 K = K 138 := jK_eq (t := 138) (by decide)
theorem jK_131_6 (K : Nat → Prop) : jK 131 6 K = K 137 := jK_eq (t := 137) (by decide)
theorem jK_131_7 (K : Nat → Prop) : jK 131 7 K = K 138 := jK_eq (t := 138) (by decide)
theorem jK_133_7 (K : Nat → Prop) : jK 133 7 K = K 140 := jK_eq (t := 140) (by decide)
theorem jK_133_10 (K : Nat → Prop) : jK 133 10 K = K 143 := jK_eq (t := 143) (by decide)
theorem jK_134_m84 (K : Nat → Prop) : jK 134 (-84) K = K 50 := jK_eq (t := 50) (by decide)
theorem jK_134_m48 (K : Nat → Prop) : jK 134 (-48) K = K 86 := jK_eq (t := 86) (by decide)
theorem jK_135_4 (K : Nat → Prop) : jK 135 4 K = K 139 := jK_eq (t := 139) (by decide)
theorem jK_136_m31 (K : Nat → Prop) : jK 136 (-31) K = K 105 := jK_eq (t := 105) (by decide)
theorem jK_137_9 (K : Nat → Prop) : jK 137 9 K = K 146 := jK_eq (t := 146) (by decide)
theorem jK_137_60 (K : Nat → Prop) : jK 137 60 K = K 197 := jK_eq (t := 197) (by decide)
theorem jK_138_4 (K : Nat → Prop) : jK 138 4 K = K 142 := jK_eq (t := 142) (by decide)
theorem jK_138_8 (K : Nat → Prop) : jK 138 8 K = K 146 := jK_eq (t := 146) (by decide)
theorem jK_139_43 (K : Nat → Prop) : jK 139 43 K = K 182 := jK_eq (t := 182) (by decide)
theorem jK_140_11 (K : Nat → Prop) : jK 140 11 K = K 151 := jK_eq (t := 151) (by decide)
theorem jK_140_37 (K : Nat → Prop) : jK 140 37 K = K 177 := jK_eq (t := 177) (by decide)
theorem jK_143_7 (K : Nat → Prop) : jK 143 7 K = K 150 := jK_eq (t := 150) (by decide)
theorem jK_143_9 (K : Nat → Prop) : jK 143 9 K = K 152 := jK_eq (t := 152) (by decide)
theorem jK_145_6 (K : Nat → Prop) : jK 145 6 K = K 151 := jK_eq (t := 151) (by decide)
theorem jK_145_37 (K : Nat → Prop) : jK 145 37 K = K 182 := jK_eq (t := 182) (by decide)
theorem jK_146_31 (K : Nat → Prop) : jK 146 31 K = K 177 := jK_eq (t := 177) (by decide)
theorem jK_147_4 (K : Nat → Prop) : jK 147 4 K = K 151 := jK_eq (t := 151) (by decide)
theorem jK_151_26 (K : Nat → Prop) : jK 151 26 K = K 177 := jK_eq (t := 177) (by decide)
theorem jK_153_6 (K : Nat → Prop) : jK 153 6 K = K 159 := jK_eq (t := 159) (by decide)
theorem jK_153_126 (K : Nat → Prop) : jK 153 126 K = K 279 := jK_eq (t := 279) (by decide)
theorem jK_155_7 (K : Nat → Prop) : jK 155 7 K = K 162 := jK_eq (t := 162) (by decide)
theorem jK_157_m73 (K : Nat → Prop) : jK 157 (-73) K = K 84 := jK_eq (t := 84) (by decide)
theorem jK_159_60 (K : Nat → Prop) : jK 159 60 K = K 219 := jK_eq (t := 219) (by decide)
theorem jK_162_m82 (K : Nat → Prop) : jK 162 (-82) K = K 80 := jK_eq (t := 80) (by decide)
theorem jK_166_m130 (K : Nat → Prop) : jK 166 (-130) K = K 36 := jK_eq (t := 36) (by decide)
theorem jK_167_28 (K : Nat → Prop) : jK 167 28 K = K 195 := jK_eq (t := 195) (by decide)
theorem jK_168_7 (K : Nat → Prop) : jK 168 7 K = K 175 := jK_eq (t := 175) (by decide)
theorem jK_169_7 (K : Nat → Prop) : jK 169 7 K = K 176 := jK_eq (t := 176) (by decide)
theorem jK_172_4 (K : Nat → Prop) : jK 172 4 K = K 176 := jK_eq (t := 176) (by decide)
theorem jK_173_46 (K : Nat → Prop) : jK 173 46 K = K 219 := jK_eq (t := 219) (by decide)
theorem jK_174_m32 (K : Nat → Prop) : jK 174 (-32) K = K 142 := jK_eq (t := 142) (by decide)
theorem jK_174_7 (K : Nat → Prop) : jK 174 7 K = K 181 := jK_eq (t := 181) (by decide)
theorem jK_175_21 (K : Nat → Prop) : jK 175 21 K = K 196 := jK_eq (t := 196) (by decide)
theorem jK_180_m168 (K : Nat → Prop) : jK 180 (-168) K = K 12 := jK_eq (t := 12) (by decide)
theorem jK_183_7 (K : Nat → Prop) : jK 183 7 K = K 190 := jK_eq (t := 190) (by decide)
theorem jK_183_12 (K : Nat → Prop) : jK 183 12 K = K 195 := jK_eq (t := 195) (by decide)
theorem jK_185_m167 (K : Nat → Prop) : jK 185 (-167) K = K 18 := jK_eq (t := 18) (by decide)
theorem jK_187_7 (K : Nat → Prop) : jK 187 7 K = K 194 := jK_eq (t := 194) (by decide)
theorem jK_187_32 (K : Nat → Prop) : jK 187 32 K = K 219 := jK_eq (t := 219) (by decide)
theorem jK_187_46 (K : Nat → Prop) : jK 187 46 K = K 233 := jK_eq (t := 233) (by decide)
theorem jK_190_15 (K : Nat → Prop) : jK 190 15 K = K 205 := jK_eq (t := 205) (by decide)
theorem jK_191_4 (K : Nat → Prop) : jK 191 4 K = K 195 := jK_eq (t := 195) (by decide)
theorem jK_192_28 (K : Nat → Prop) : jK 192 28 K = K 220 := jK_eq (t := 220) (by decide)
theorem jK_194_m81 (K : Nat → Prop) : jK 194 (-81) K = K 113 := jK_eq (t := 113) (by decide)
theorem jK_197_7 (K : Nat → Prop) : jK 197 7 K = K 204 := jK_eq (t := 204) (by decide)
theorem jK_198_m178 (K : Nat → Prop) : jK 198 (-178) K = K 20 := jK_eq (t := 20) (by decide)
theorem jK_201_18 (K : Nat → Prop) : jK 201 18 K = K 219 := jK_eq (t := 219) (by decide)
theorem jK_202_4 (K : Nat → Prop) : jK 202 4 K = K 206 := jK_eq (t := 206) (by decide)
theorem jK_202_22 (K : Nat → Prop) : jK 202 22 K = K 224 := jK_eq (t := 224) (by decide)
theorem jK_202_60 (K : Nat → Prop) : jK 202 60 K = K 262 := jK_eq (t := 262) (by decide)
theorem jK_207_5 (K : Nat → Prop) : jK 207 5 K = K 212 := jK_eq (t := 212) (by decide)
theorem jK_208_7 (K : Nat → Prop) : jK 208 7 K = K 215 := jK_eq (t := 215) (by decide)
theorem jK_209_5 (K : Nat → Prop) : jK 209 5 K = K 214 := jK_eq (t := 214) (by decide)
theorem jK_211_7 (K : Nat → Prop) : jK 211 7 K = K 218 := jK_eq (t := 218) (by decide)
theorem jK_212_4 (K : Nat → Prop) : jK 212 4 K = K 216 := jK_eq (t := 216) (by decide)
theorem jK_215_m207 (K : Nat → Prop) : jK 215 (-207) K = K 8 := jK_eq (t := 8) (by decide)
theorem jK_215_4 (K : Nat → Prop) : jK 215 4 K = K 219 := jK_eq (t := 219) (by decide)
theorem jK_217_7 (K : Nat → Prop) : jK 217 7 K = K 224 := jK_eq (t := 224) (by decide)
theorem jK_221_4 (K : Nat → Prop) : jK 221 4 K = K 225 := jK_eq (t := 225) (by decide)
theorem jK_226_8 (K : Nat → Prop) : jK 226 8 K = K 234 := jK_eq (t := 234) (by decide)
theorem jK_230_m49 (K : Nat → Prop) : jK 230 (-49) K = K 181 := jK_eq (t := 181) (by decide)
theorem jK_239_45 (K : Nat → Prop) : jK 239 45 K = K 284 := jK_eq (t := 284) (by decide)
theorem jK_241_30 (K : Nat → Prop) : jK 241 30 K = K 271 := jK_eq (t := 271) (by decide)
theorem jK_245_39 (K : Nat → Prop) : jK 245 39 K = K 284 := jK_eq (t := 284) (by decide)
theorem jK_251_33 (K : Nat → Prop) : jK 251 33 K = K 284 := jK_eq (t := 284) (by decide)
theorem jK_257_27 (K : Nat → Prop) : jK 257 27 K = K 284 := jK_eq (t := 284) (by decide)
theorem jK_259_m223 (K : Nat → Prop) : jK 259 (-223) K = K 36 := jK_eq (t := 36) (by decide)
theorem jK_263_21 (K : Nat → Prop) : jK 263 21 K = K 284 := jK_eq (t := 284) (by decide)
theorem jK_264_7 (K : Nat → Prop) : jK 264 7 K = K 271 := jK_eq (t := 271) (by decide)
theorem jK_268_4 (K : Nat → Prop) : jK 268 4 K = K 272 := jK_eq (t := 272) (by decide)
theorem jK_268_24 (K : Nat → Prop) : jK 268 24 K = K 292 := jK_eq (t := 292) (by decide)
theorem jK_268_1720 (K : Nat → Prop) : jK 268 1720 K = K 1988 := jK_eq (t := 1988) (by decide)
theorem jK_269_15 (K : Nat → Prop) : jK 269 15 K = K 284 := jK_eq (t := 284) (by decide)
theorem jK_275_9 (K : Nat → Prop) : jK 275 9 K = K 284 := jK_eq (t := 284) (by decide)
theorem jK_276_m125 (K : Nat → Prop) : jK 276 (-125) K = K 151 := jK_eq (t := 151) (by decide)
theorem jK_277_17 (K : Nat → Prop) : jK 277 17 K = K 294 := jK_eq (t := 294) (by decide)
theorem jK_281_7 (K : Nat → Prop) : jK 281 7 K = K 288 := jK_eq (t := 288) (by decide)
theorem jK_285_4 (K : Nat → Prop) : jK 285 4 K = K 289 := jK_eq (t := 289) (by decide)
theorem jK_285_5 (K : Nat → Prop) : jK 285 5 K = K 290 := jK_eq (t := 290) (by decide)
theorem jK_289_5 (K : Nat → Prop) : jK 289 5 K = K 294 := jK_eq (t := 294) (by decide)
theorem jK_292_8 (K : Nat → Prop) : jK 292 8 K = K 300 := jK_eq (t := 300) (by decide)
theorem jK_301_1687 (K : Nat → Prop) : jK 301 1687 K = K 1988 := jK_eq (t := 1988) (by decide)
theorem jK_308_24 (K : Nat → Prop) : jK 308 24 K = K 332 := jK_eq (t := 332) (by decide)
theorem jK_312_67 (K : Nat → Prop) : jK 312 67 K = K 379 := jK_eq (t := 379) (by decide)
theorem jK_317_19 (K : Nat → Prop) : jK 317 19 K = K 336 := jK_eq (t := 336) (by decide)
theorem jK_326_18 (K : Nat → Prop) : jK 326 18 K = K 344 := jK_eq (t := 344) (by decide)
theorem jK_329_7 (K : Nat → Prop) : jK 329 7 K = K 336 := jK_eq (t := 336) (by decide)
theorem jK_333_4 (K : Nat → Prop) : jK 333 4 K = K 337 := jK_eq (t := 337) (by decide)
theorem jK_334_1654 (K : Nat → Prop) : jK 334 1654 K = K 1988 := jK_eq (t := 1988) (by decide)
theorem jK_341_9 (K : Nat → Prop) : jK 341 9 K = K 350 := jK_eq (t := 350) (by decide)
theorem jK_347_m29 (K : Nat → Prop) : jK 347 (-29) K = K 318 := jK_eq (t := 318) (by decide)
theorem jK_353_11 (K : Nat → Prop) : jK 353 11 K = K 364 := jK_eq (t := 364) (by decide)
theorem jK_360_7 (K : Nat → Prop) : jK 360 7 K = K 367 := jK_eq (t := 367) (by decide)
theorem jK_364_4 (K : Nat → Prop) : jK 364 4 K = K 368 := jK_eq (t := 368) (by decide)
theorem jK_367_1621 (K : Nat → Prop) : jK 367 1621 K = K 1988 := jK_eq (t := 1988) (by decide)
theorem jK_373_m337 (K : Nat → Prop) : jK 373 (-337) K = K 36 := jK_eq (t := 36) (by decide)
theorem jK_376_m70 (K : Nat → Prop) : jK 376 (-70) K = K 306 := jK_eq (t := 306) (by decide)
theorem jK_420_1568 (K : Nat → Prop) : jK 420 1568 K = K 1988 := jK_eq (t := 1988) (by decide)
theorem jK_453_1535 (K : Nat → Prop) : jK 453 1535 K = K 1988 := jK_eq (t := 1988) (by decide)
theorem jK_486_1502 (K : Nat → Prop) : jK 486 1502 K = K 1988 := jK_eq (t := 1988) (by decide)
theorem jK_503_16 (K : Nat → Prop) : jK 503 16 K = K 519 := jK_eq (t := 519) (by decide)
theorem jK_516_m16 (K : Nat → Prop) : jK 516 (-16) K = K 500 := jK_eq (t := 500) (by decide)
theorem jK_519_1469 (K : Nat → Prop) : jK 519 1469 K = K 1988 := jK_eq (t := 1988) (by decide)
theorem jK_552_1436 (K : Nat → Prop) : jK 552 1436 K = K 1988 := jK_eq (t := 1988) (by decide)
theorem jK_585_1403 (K : Nat → Prop) : jK 585 1403 K = K 1988 := jK_eq (t := 1988) (by decide)
theorem jK_619_1369 (K : Nat → Prop) : jK 619 1369 K = K 1988 := jK_eq (t := 1988) (by decide)
theorem jK_653_1335 (K : Nat → Prop) : jK 653 1335 K = K 1988 := jK_eq (t := 1988) (by decide)
theorem jK_716_1272 (K : Nat → Prop) : jK 716 1272 K = K 1988 := jK_eq (t := 1988) (by decide)
theorem jK_729_1259 (K : Nat → Prop) : jK 729 1259 K = K 1988 := jK_eq (t := 1988) (by decide)
theorem jK_762_1226 (K : Nat → Prop) : jK 762 1226 K = K 1988 := jK_eq (t := 1988) (by decide)
theorem jK_816_1172 (K : Nat → Prop) : jK 816 1172 K = K 1988 := jK_eq (t := 1988) (by decide)
theorem jK_849_1139 (K : Nat → Prop) : jK 849 1139 K = K 1988 := jK_eq (t := 1988) (by decide)
theorem jK_872_1116 (K : Nat → Prop) : jK 872 1116 K = K 1988 := jK_eq (t := 1988) (by decide)
theorem jK_935_1053 (K : Nat → Prop) : jK 935 1053 K = K 1988 := jK_eq (t := 1988) (by decide)
theorem jK_978_1010 (K : Nat → Prop) : jK 978 1010 K = K 1988 := jK_eq (t := 1988) (by decide)
theorem jK_1021_967 (K : Nat → Prop) : jK 1021 967 K = K 1988 := jK_eq (t := 1988) (by decide)
theorem jK_1074_914 (K : Nat → Prop) : jK 1074 914 K = K 1988 := jK_eq (t := 1988) (by decide)
theorem jK_1097_891 (K : Nat → Prop) : jK 1097 891 K = K 1988 := jK_eq (t := 1988) (by decide)
theorem jK_1130_858 (K : Nat → Prop) : jK 1130 858 K = K 1988 := jK_eq (t := 1988) (by decide)
theorem jK_1143_845 (K : Nat → Prop) : jK 1143 845 K = K 1988 := jK_eq (t := 1988) (by decide)
theorem jK_1186_802 (K : Nat → Prop) : jK 1186 802 K = K 1988 := jK_eq (t := 1988) (by decide)
theorem jK_1209_779 (K : Nat → Prop) : jK 1209 779 K = K 1988 := jK_eq (t := 1988) (by decide)
theorem jK_1252_736 (K : Nat → Prop) : jK 1252 736 K = K 1988 := jK_eq (t := 1988) (by decide)
theorem jK_1265_723 (K : Nat → Prop) : jK 1265 723 K = K 1988 := jK_eq (t := 1988) (by decide)
theorem jK_1298_690 (K : Nat → Prop) : jK 1298 690 K = K 1988 := jK_eq (t := 1988) (by decide)
theorem jK_1341_647 (K : Nat → Prop) : jK 1341 647 K = K 1988 := jK_eq (t := 1988) (by decide)
theorem jK_1394_594 (K : Nat → Prop) : jK 1394 594 K = K 1988 := jK_eq (t := 1988) (by decide)
theorem jK_1417_571 (K : Nat → Prop) : jK 1417 571 K = K 1988 := jK_eq (t := 1988) (by decide)
theorem jK_1460_528 (K : Nat → Prop) : jK 1460 528 K = K 1988 := jK_eq (t := 1988) (by decide)
theorem jK_1503_485 (K : Nat → Prop) : jK 1503 485 K = K 1988 := jK_eq (t := 1988) (by decide)
theorem jK_1526_462 (K : Nat → Prop) : jK 1526 462 K = K 1988 := jK_eq (t := 1988) (by decide)
theorem jK_1569_419 (K : Nat → Prop) : jK 1569 419 K = K 1988 := jK_eq (t := 1988) (by decide)
theorem jK_1602_386 (K : Nat → Prop) : jK 1602 386 K = K 1988 := jK_eq (t := 1988) (by decide)
theorem jK_1625_363 (K : Nat → Prop) : jK 1625 363 K = K 1988 := jK_eq (t := 1988) (by decide)
theorem jK_1648_340 (K : Nat → Prop) : jK 1648 340 K = K 1988 := jK_eq (t := 1988) (by decide)
theorem jK_1691_297 (K : Nat → Prop) : jK 1691 297 K = K 1988 := jK_eq (t := 1988) (by decide)
theorem jK_1715_273 (K : Nat → Prop) : jK 1715 273 K = K 1988 := jK_eq (t := 1988) (by decide)
theorem jK_1738_250 (K : Nat → Prop) : jK 1738 250 K = K 1988 := jK_eq (t := 1988) (by decide)
theorem jK_1781_207 (K : Nat → Prop) : jK 1781 207 K = K 1988 := jK_eq (t := 1988) (by decide)
theorem jK_1824_164 (K : Nat → Prop) : jK 1824 164 K = K 1988 := jK_eq (t := 1988) (by decide)
theorem jK_1887_101 (K : Nat → Prop) : jK 1887 101 K = K 1988 := jK_eq (t := 1988) (by decide)
theorem jK_1950_38 (K : Nat → Prop) : jK 1950 38 K = K 1988 := jK_eq (t := 1988) (by decide)
theorem jK_1983_5 (K : Nat → Prop) : jK 1983 5 K = K 1988 := jK_eq (t := 1988) (by decide)
theorem jK_1991_m1973 (K : Nat → Prop) : jK 1991 (-1973) K = K 18 := jK_eq (t := 18) (by decide)
theorem mq_0 : mnl 0 = 2 ∧ mrt 0 = none ∧ mal 0 = 10 := ⟨rfl, rfl, rfl⟩
theorem mnl_0 : mnl 0 = 2 := rfl
theorem mrt_0 : mrt 0 = none := rfl
theorem mal_0 : mal 0 = 10 := rfl
theorem mq_1 : mnl 1 = 4 ∧ mrt 1 = (some .int) ∧ mal 1 = 0 := ⟨rfl, rfl, rfl⟩
theorem mnl_1 : mnl 1 = 4 := rfl
theorem mrt_1 : mrt 1 = (some .int) := rfl
theorem mal_1 : mal 1 = 0 := rfl
theorem mq_2 : mnl 2 = 5 ∧ mrt 2 = (some .int) ∧ mal 2 = 0 := ⟨rfl, rfl, rfl⟩
theorem mnl_2 : mnl 2 = 5 := rfl
theorem mrt_2 : mrt 2 = (some .int) := rfl
theorem mal_2 : mal 2 = 0 := rfl
theorem mq_3 : mnl 3 = 4 ∧ mrt 3 = (some .int) ∧ mal 3 = 0 := ⟨rfl, rfl, rfl⟩
theorem mnl_3 : mnl 3 = 4 := rfl
theorem mrt_3 : mrt 3 = (some .int) := rfl
theorem mal_3 : mal 3 = 0 := rfl
theorem mq_4 : mnl 4 = 2 ∧ mrt 4 = (some .int) ∧ mal 4 = 0 := ⟨rfl, rfl, rfl⟩
theorem mnl_4 : mnl 4 = 2 := rfl
theorem mrt_4 : mrt 4 = (some .int) := rfl
theorem mal_4 : mal 4 = 0 := rfl
theorem mq_5 : mnl 5 = 4 ∧ mrt 5 = (some .boolean) ∧ mal 5 = 0 := ⟨rfl, rfl, rfl⟩
theorem mnl_5 : mnl 5 = 4 := rfl
theorem mrt_5 : mrt 5 = (some .boolean) := rfl
theorem mal_5 : mal 5 = 0 := rfl
theorem mq_6 : mnl 6 = 3 ∧ mrt 6 = (some .int) ∧ mal 6 = 0 := ⟨rfl, rfl, rfl⟩
theorem mnl_6 : mnl 6 = 3 := rfl
theorem mrt_6 : mrt 6 = (some .int) := rfl
theorem mal_6 : mal 6 = 0 := rfl
theorem mq_7 : mnl 7 = 7 ∧ mrt 7 = (some .int) ∧ mal 7 = 0 := ⟨rfl, rfl, rfl⟩
theorem mnl_7 : mnl 7 = 7 := rfl
theorem mrt_7 : mrt 7 = (some .int) := rfl
theorem mal_7 : mal 7 = 0 := rfl
theorem mq_8 : mnl 8 = 8 ∧ mrt 8 = (some .int) ∧ mal 8 = 0 := ⟨rfl, rfl, rfl⟩
theorem mnl_8 : mnl 8 = 8 := rfl
theorem mrt_8 : mrt 8 = (some .int) := rfl
theorem mal_8 : mal 8 = 0 := rfl
theorem mq_9 : mnl 9 = 4 ∧ mrt 9 = (some .int) ∧ mal 9 = 0 := ⟨rfl, rfl, rfl⟩
theorem mnl_9 : mnl 9 = 4 := rfl
theorem mrt_9 : mrt 9 = (some .int) := rfl
theorem mal_9 : mal 9 = 0 := rfl
theorem mq_10 : mnl 10 = 4 ∧ mrt 10 = (some .boolean) ∧ mal 10 = 0 := ⟨rfl, rfl, rfl⟩
theorem mnl_10 : mnl 10 = 4 := rfl
theorem mrt_10 : mrt 10 = (some .boolean) := rfl
theorem mal_10 : mal 10 = 0 := rfl
theorem mq_11 : mnl 11 = 5 ∧ mrt 11 = (some .boolean) ∧ mal 11 = 0 := ⟨rfl, rfl, rfl⟩
theorem mnl_11 : mnl 11 = 5 := rfl
theorem mrt_11 : mrt 11 = (some .boolean) := rfl
theorem mal_11 : mal 11 = 0 := rfl
theorem mq_12 : mnl 12 = 4 ∧ mrt 12 = none ∧ mal 12 = 1 := ⟨rfl, rfl, rfl⟩
theorem mnl_12 : mnl 12 = 4 := rfl
theorem mrt_12 : mrt 12 = none := rfl
theorem mal_12 : mal 12 = 1 := rfl
theorem mq_13 : mnl 13 = 8 ∧ mrt 13 = (some .int) ∧ mal 13 = 0 := ⟨rfl, rfl, rfl⟩
theorem mnl_13 : mnl 13 = 8 := rfl
theorem mrt_13 : mrt 13 = (some .int) := rfl
theorem mal_13 : mal 13 = 0 := rfl
theorem mq_14 : mnl 14 = 5 ∧ mrt 14 = (some .int) ∧ mal 14 = 0 := ⟨rfl, rfl, rfl⟩
theorem mnl_14 : mnl 14 = 5 := rfl
theorem mrt_14 : mrt 14 = (some .int) := rfl
theorem mal_14 : mal 14 = 0 := rfl
theorem mq_15 : mnl 15 = 10 ∧ mrt 15 = (some .int) ∧ mal 15 = 0 := ⟨rfl, rfl, rfl⟩
theorem mnl_15 : mnl 15 = 10 := rfl
theorem mrt_15 : mrt 15 = (some .int) := rfl
theorem mal_15 : mal 15 = 0 := rfl
theorem mq_16 : mnl 16 = 5 ∧ mrt 16 = (some .int) ∧ mal 16 = 0 := ⟨rfl, rfl, rfl⟩
theorem mnl_16 : mnl 16 = 5 := rfl
theorem mrt_16 : mrt 16 = (some .int) := rfl
theorem mal_16 : mal 16 = 0 := rfl
theorem mq_17 : mnl 17 = 3 ∧ mrt 17 = none ∧ mal 17 = 0 := ⟨rfl, rfl, rfl⟩
theorem mnl_17 : mnl 17 = 3 := rfl
theorem mrt_17 : mrt 17 = none := rfl
theorem mal_17 : mal 17 = 0 := rfl
theorem mq_18 : mnl 18 = 4 ∧ mrt 18 = (some .int) ∧ mal 18 = 0 := ⟨rfl, rfl, rfl⟩
theorem mnl_18 : mnl 18 = 4 := rfl
theorem mrt_18 : mrt 18 = (some .int) := rfl
theorem mal_18 : mal 18 = 0 := rfl
theorem mq_19 : mnl 19 = 3 ∧ mrt 19 = (some .boolean) ∧ mal 19 = 0 := ⟨rfl, rfl, rfl⟩
theorem mnl_19 : mnl 19 = 3 := rfl
theorem mrt_19 : mrt 19 = (some .boolean) := rfl
theorem mal_19 : mal 19 = 0 := rfl
theorem mq_20 : mnl 20 = 1 ∧ mrt 20 = none ∧ mal 20 = 1 := ⟨rfl, rfl, rfl⟩
theorem mnl_20 : mnl 20 = 1 := rfl
theorem mrt_20 : mrt 20 = none := rfl
theorem mal_20 : mal 20 = 1 := rfl
theorem mq_21 : mnl 21 = 4 ∧ mrt 21 = (some .boolean) ∧ mal 21 = 0 := ⟨rfl, rfl, rfl⟩
theorem mnl_21 : mnl 21 = 4 := rfl
theorem mrt_21 : mrt 21 = (some .boolean) := rfl
theorem mal_21 : mal 21 = 0 := rfl
theorem mq_22 : mnl 22 = 5 ∧ mrt 22 = (some .int) ∧ mal 22 = 0 := ⟨rfl, rfl, rfl⟩
theorem mnl_22 : mnl 22 = 5 := rfl
theorem mrt_22 : mrt 22 = (some .int) := rfl
theorem mal_22 : mal 22 = 0 := rfl
theorem mq_23 : mnl 23 = 5 ∧ mrt 23 = none ∧ mal 23 = 0 := ⟨rfl, rfl, rfl⟩
theorem mnl_23 : mnl 23 = 5 := rfl
theorem mrt_23 : mrt 23 = none := rfl
theorem mal_23 : mal 23 = 0 := rfl
theorem mq_24 : mnl 24 = 2 ∧ mrt 24 = (some .int) ∧ mal 24 = 0 := ⟨rfl, rfl, rfl⟩
theorem mnl_24 : mnl 24 = 2 := rfl
theorem mrt_24 : mrt 24 = (some .int) := rfl
theorem mal_24 : mal 24 = 0 := rfl
theorem mq_25 : mnl 25 = 2 ∧ mrt 25 = (some .int) ∧ mal 25 = 0 := ⟨rfl, rfl, rfl⟩
theorem mnl_25 : mnl 25 = 2 := rfl
theorem mrt_25 : mrt 25 = (some .int) := rfl
theorem mal_25 : mal 25 = 0 := rfl
theorem mq_26 : mnl 26 = 3 ∧ mrt 26 = none ∧ mal 26 = 33 := ⟨rfl, rfl, rfl⟩
theorem mnl_26 : mnl 26 = 3 := rfl
theorem mrt_26 : mrt 26 = none := rfl
theorem mal_26 : mal 26 = 33 := rfl
theorem mq_27 : mnl 27 = 5 ∧ mrt 27 = (some .int) ∧ mal 27 = 0 := ⟨rfl, rfl, rfl⟩
theorem mnl_27 : mnl 27 = 5 := rfl
theorem mrt_27 : mrt 27 = (some .int) := rfl
theorem mal_27 : mal 27 = 0 := rfl
theorem mq_28 : mnl 28 = 2 ∧ mrt 28 = (some .boolean) ∧ mal 28 = 0 := ⟨rfl, rfl, rfl⟩
theorem mnl_28 : mnl 28 = 2 := rfl
theorem mrt_28 : mrt 28 = (some .boolean) := rfl
theorem mal_28 : mal 28 = 0 := rfl
theorem mq_29 : mnl 29 = 2 ∧ mrt 29 = (some .boolean) ∧ mal 29 = 0 := ⟨rfl, rfl, rfl⟩
theorem mnl_29 : mnl 29 = 2 := rfl
theorem mrt_29 : mrt 29 = (some .boolean) := rfl
theorem mal_29 : mal 29 = 0 := rfl
theorem mq_30 : mnl 30 = 3 ∧ mrt 30 = (some .int) ∧ mal 30 = 0 := ⟨rfl, rfl, rfl⟩
theorem mnl_30 : mnl 30 = 3 := rfl
theorem mrt_30 : mrt 30 = (some .int) := rfl
theorem mal_30 : mal 30 = 0 := rfl
theorem mq_31 : mnl 31 = 3 ∧ mrt 31 = (some .int) ∧ mal 31 = 0 := ⟨rfl, rfl, rfl⟩
theorem mnl_31 : mnl 31 = 3 := rfl
theorem mrt_31 : mrt 31 = (some .int) := rfl
theorem mal_31 : mal 31 = 0 := rfl
theorem mq_32 : mnl 32 = 5 ∧ mrt 32 = (some .boolean) ∧ mal 32 = 0 := ⟨rfl, rfl, rfl⟩
theorem mnl_32 : mnl 32 = 5 := rfl
theorem mrt_32 : mrt 32 = (some .boolean) := rfl
theorem mal_32 : mal 32 = 0 := rfl
theorem mq_33 : mnl 33 = 3 ∧ mrt 33 = (some .long) ∧ mal 33 = 0 := ⟨rfl, rfl, rfl⟩
theorem mnl_33 : mnl 33 = 3 := rfl
theorem mrt_33 : mrt 33 = (some .long) := rfl
theorem mal_33 : mal 33 = 0 := rfl
theorem mq_34 : mnl 34 = 6 ∧ mrt 34 = (some .long) ∧ mal 34 = 0 := ⟨rfl, rfl, rfl⟩
theorem mnl_34 : mnl 34 = 6 := rfl
theorem mrt_34 : mrt 34 = (some .long) := rfl
theorem mal_34 : mal 34 = 0 := rfl
theorem mq_35 : mnl 35 = 5 ∧ mrt 35 = (some .boolean) ∧ mal 35 = 0 := ⟨rfl, rfl, rfl⟩
theorem mnl_35 : mnl 35 = 5 := rfl
theorem mrt_35 : mrt 35 = (some .boolean) := rfl
theorem mal_35 : mal 35 = 0 := rfl
theorem mq_36 : mnl 36 = 1 ∧ mrt 36 = none ∧ mal 36 = 10 := ⟨rfl, rfl, rfl⟩
theorem mnl_36 : mnl 36 = 1 := rfl
theorem mrt_36 : mrt 36 = none := rfl
theorem mal_36 : mal 36 = 10 := rfl
theorem mq_37 : mnl 37 = 6 ∧ mrt 37 = (some .int) ∧ mal 37 = 0 := ⟨rfl, rfl, rfl⟩
theorem mnl_37 : mnl 37 = 6 := rfl
theorem mrt_37 : mrt 37 = (some .int) := rfl
theorem mal_37 : mal 37 = 0 := rfl
theorem mq_38 : mnl 38 = 7 ∧ mrt 38 = (some .int) ∧ mal 38 = 0 := ⟨rfl, rfl, rfl⟩
theorem mnl_38 : mnl 38 = 7 := rfl
theorem mrt_38 : mrt 38 = (some .int) := rfl
theorem mal_38 : mal 38 = 0 := rfl
theorem mq_39 : mnl 39 = 4 ∧ mrt 39 = (some .int) ∧ mal 39 = 0 := ⟨rfl, rfl, rfl⟩
theorem mnl_39 : mnl 39 = 4 := rfl
theorem mrt_39 : mrt 39 = (some .int) := rfl
theorem mal_39 : mal 39 = 0 := rfl
theorem mq_40 : mnl 40 = 2 ∧ mrt 40 = (some .boolean) ∧ mal 40 = 0 := ⟨rfl, rfl, rfl⟩
theorem mnl_40 : mnl 40 = 2 := rfl
theorem mrt_40 : mrt 40 = (some .boolean) := rfl
theorem mal_40 : mal 40 = 0 := rfl
theorem mq_41 : mnl 41 = 3 ∧ mrt 41 = (some .int) ∧ mal 41 = 0 := ⟨rfl, rfl, rfl⟩
theorem mnl_41 : mnl 41 = 3 := rfl
theorem mrt_41 : mrt 41 = (some .int) := rfl
theorem mal_41 : mal 41 = 0 := rfl
theorem mq_42 : mnl 42 = 5 ∧ mrt 42 = (some .int) ∧ mal 42 = 0 := ⟨rfl, rfl, rfl⟩
theorem mnl_42 : mnl 42 = 5 := rfl
theorem mrt_42 : mrt 42 = (some .int) := rfl
theorem mal_42 : mal 42 = 0 := rfl
theorem mq_43 : mnl 43 = 3 ∧ mrt 43 = (some .int) ∧ mal 43 = 0 := ⟨rfl, rfl, rfl⟩
theorem mnl_43 : mnl 43 = 3 := rfl
theorem mrt_43 : mrt 43 = (some .int) := rfl
theorem mal_43 : mal 43 = 0 := rfl
theorem mq_44 : mnl 44 = 7 ∧ mrt 44 = (some .int) ∧ mal 44 = 0 := ⟨rfl, rfl, rfl⟩
theorem mnl_44 : mnl 44 = 7 := rfl
theorem mrt_44 : mrt 44 = (some .int) := rfl
theorem mal_44 : mal 44 = 0 := rfl
theorem mq_45 : mnl 45 = 3 ∧ mrt 45 = none ∧ mal 45 = 4 := ⟨rfl, rfl, rfl⟩
theorem mnl_45 : mnl 45 = 3 := rfl
theorem mrt_45 : mrt 45 = none := rfl
theorem mal_45 : mal 45 = 4 := rfl
theorem mq_46 : mnl 46 = 2 ∧ mrt 46 = (some .int) ∧ mal 46 = 0 := ⟨rfl, rfl, rfl⟩
theorem mnl_46 : mnl 46 = 2 := rfl
theorem mrt_46 : mrt 46 = (some .int) := rfl
theorem mal_46 : mal 46 = 0 := rfl
theorem mq_47 : mnl 47 = 7 ∧ mrt 47 = (some .int) ∧ mal 47 = 0 := ⟨rfl, rfl, rfl⟩
theorem mnl_47 : mnl 47 = 7 := rfl
theorem mrt_47 : mrt 47 = (some .int) := rfl
theorem mal_47 : mal 47 = 0 := rfl
theorem mq_48 : mnl 48 = 5 ∧ mrt 48 = (some .long) ∧ mal 48 = 0 := ⟨rfl, rfl, rfl⟩
theorem mnl_48 : mnl 48 = 5 := rfl
theorem mrt_48 : mrt 48 = (some .long) := rfl
theorem mal_48 : mal 48 = 0 := rfl
theorem mq_49 : mnl 49 = 3 ∧ mrt 49 = none ∧ mal 49 = 0 := ⟨rfl, rfl, rfl⟩
theorem mnl_49 : mnl 49 = 3 := rfl
theorem mrt_49 : mrt 49 = none := rfl
theorem mal_49 : mal 49 = 0 := rfl
theorem mq_50 : mnl 50 = 4 ∧ mrt 50 = (some .int) ∧ mal 50 = 0 := ⟨rfl, rfl, rfl⟩
theorem mnl_50 : mnl 50 = 4 := rfl
theorem mrt_50 : mrt 50 = (some .int) := rfl
theorem mal_50 : mal 50 = 0 := rfl
theorem mq_51 : mnl 51 = 3 ∧ mrt 51 = (some .boolean) ∧ mal 51 = 0 := ⟨rfl, rfl, rfl⟩
theorem mnl_51 : mnl 51 = 3 := rfl
theorem mrt_51 : mrt 51 = (some .boolean) := rfl
theorem mal_51 : mal 51 = 0 := rfl
theorem mq_52 : mnl 52 = 7 ∧ mrt 52 = (some .int) ∧ mal 52 = 0 := ⟨rfl, rfl, rfl⟩
theorem mnl_52 : mnl 52 = 7 := rfl
theorem mrt_52 : mrt 52 = (some .int) := rfl
theorem mal_52 : mal 52 = 0 := rfl
theorem mq_53 : mnl 53 = 2 ∧ mrt 53 = (some .boolean) ∧ mal 53 = 0 := ⟨rfl, rfl, rfl⟩
theorem mnl_53 : mnl 53 = 2 := rfl
theorem mrt_53 : mrt 53 = (some .boolean) := rfl
theorem mal_53 : mal 53 = 0 := rfl
theorem mq_54 : mnl 54 = 3 ∧ mrt 54 = none ∧ mal 54 = 0 := ⟨rfl, rfl, rfl⟩
theorem mnl_54 : mnl 54 = 3 := rfl
theorem mrt_54 : mrt 54 = none := rfl
theorem mal_54 : mal 54 = 0 := rfl
theorem mq_55 : mnl 55 = 6 ∧ mrt 55 = none ∧ mal 55 = 0 := ⟨rfl, rfl, rfl⟩
theorem mnl_55 : mnl 55 = 6 := rfl
theorem mrt_55 : mrt 55 = none := rfl
theorem mal_55 : mal 55 = 0 := rfl
theorem mq_56 : mnl 56 = 5 ∧ mrt 56 = (some .int) ∧ mal 56 = 0 := ⟨rfl, rfl, rfl⟩
theorem mnl_56 : mnl 56 = 5 := rfl
theorem mrt_56 : mrt 56 = (some .int) := rfl
theorem mal_56 : mal 56 = 0 := rfl
theorem mq_57 : mnl 57 = 3 ∧ mrt 57 = (some .int) ∧ mal 57 = 0 := ⟨rfl, rfl, rfl⟩
theorem mnl_57 : mnl 57 = 3 := rfl
theorem mrt_57 : mrt 57 = (some .int) := rfl
theorem mal_57 : mal 57 = 0 := rfl
theorem mq_58 : mnl 58 = 3 ∧ mrt 58 = none ∧ mal 58 = 2 := ⟨rfl, rfl, rfl⟩
theorem mnl_58 : mnl 58 = 3 := rfl
theorem mrt_58 : mrt 58 = none := rfl
theorem mal_58 : mal 58 = 2 := rfl
theorem mq_59 : mnl 59 = 1 ∧ mrt 59 = (some .boolean) ∧ mal 59 = 0 := ⟨rfl, rfl, rfl⟩
theorem mnl_59 : mnl 59 = 1 := rfl
theorem mrt_59 : mrt 59 = (some .boolean) := rfl
theorem mal_59 : mal 59 = 0 := rfl
theorem mq_60 : mnl 60 = 4 ∧ mrt 60 = (some .int) ∧ mal 60 = 0 := ⟨rfl, rfl, rfl⟩
theorem mnl_60 : mnl 60 = 4 := rfl
theorem mrt_60 : mrt 60 = (some .int) := rfl
theorem mal_60 : mal 60 = 0 := rfl
theorem mq_61 : mnl 61 = 4 ∧ mrt 61 = none ∧ mal 61 = 0 := ⟨rfl, rfl, rfl⟩
theorem mnl_61 : mnl 61 = 4 := rfl
theorem mrt_61 : mrt 61 = none := rfl
theorem mal_61 : mal 61 = 0 := rfl
theorem mq_62 : mnl 62 = 3 ∧ mrt 62 = (some .int) ∧ mal 62 = 0 := ⟨rfl, rfl, rfl⟩
theorem mnl_62 : mnl 62 = 3 := rfl
theorem mrt_62 : mrt 62 = (some .int) := rfl
theorem mal_62 : mal 62 = 0 := rfl
theorem mq_63 : mnl 63 = 6 ∧ mrt 63 = (some .int) ∧ mal 63 = 0 := ⟨rfl, rfl, rfl⟩
theorem mnl_63 : mnl 63 = 6 := rfl
theorem mrt_63 : mrt 63 = (some .int) := rfl
theorem mal_63 : mal 63 = 0 := rfl
theorem mq_64 : mnl 64 = 3 ∧ mrt 64 = (some .int) ∧ mal 64 = 0 := ⟨rfl, rfl, rfl⟩
theorem mnl_64 : mnl 64 = 3 := rfl
theorem mrt_64 : mrt 64 = (some .int) := rfl
theorem mal_64 : mal 64 = 0 := rfl
theorem mq_65 : mnl 65 = 5 ∧ mrt 65 = (some .boolean) ∧ mal 65 = 0 := ⟨rfl, rfl, rfl⟩
theorem mnl_65 : mnl 65 = 5 := rfl
theorem mrt_65 : mrt 65 = (some .boolean) := rfl
theorem mal_65 : mal 65 = 0 := rfl
theorem mq_66 : mnl 66 = 4 ∧ mrt 66 = (some .int) ∧ mal 66 = 0 := ⟨rfl, rfl, rfl⟩
theorem mnl_66 : mnl 66 = 4 := rfl
theorem mrt_66 : mrt 66 = (some .int) := rfl
theorem mal_66 : mal 66 = 0 := rfl
theorem mq_67 : mnl 67 = 1 ∧ mrt 67 = (some .boolean) ∧ mal 67 = 0 := ⟨rfl, rfl, rfl⟩
theorem mnl_67 : mnl 67 = 1 := rfl
theorem mrt_67 : mrt 67 = (some .boolean) := rfl
theorem mal_67 : mal 67 = 0 := rfl
theorem mq_68 : mnl 68 = 1 ∧ mrt 68 = (some .boolean) ∧ mal 68 = 0 := ⟨rfl, rfl, rfl⟩
theorem mnl_68 : mnl 68 = 1 := rfl
theorem mrt_68 : mrt 68 = (some .boolean) := rfl
theorem mal_68 : mal 68 = 0 := rfl
theorem mq_69 : mnl 69 = 3 ∧ mrt 69 = none ∧ mal 69 = 0 := ⟨rfl, rfl, rfl⟩
theorem mnl_69 : mnl 69 = 3 := rfl
theorem mrt_69 : mrt 69 = none := rfl
theorem mal_69 : mal 69 = 0 := rfl
theorem mq_70 : mnl 70 = 3 ∧ mrt 70 = none ∧ mal 70 = 0 := ⟨rfl, rfl, rfl⟩
theorem mnl_70 : mnl 70 = 3 := rfl
theorem mrt_70 : mrt 70 = none := rfl
theorem mal_70 : mal 70 = 0 := rfl
theorem mq_71 : mnl 71 = 3 ∧ mrt 71 = none ∧ mal 71 = 0 := ⟨rfl, rfl, rfl⟩
theorem mnl_71 : mnl 71 = 3 := rfl
theorem mrt_71 : mrt 71 = none := rfl
theorem mal_71 : mal 71 = 0 := rfl
theorem mq_72 : mnl 72 = 2 ∧ mrt 72 = none ∧ mal 72 = 0 := ⟨rfl, rfl, rfl⟩
theorem mnl_72 : mnl 72 = 2 := rfl
theorem mrt_72 : mrt 72 = none := rfl
theorem mal_72 : mal 72 = 0 := rfl
theorem mq_73 : mnl 73 = 3 ∧ mrt 73 = none ∧ mal 73 = 0 := ⟨rfl, rfl, rfl⟩
theorem mnl_73 : mnl 73 = 3 := rfl
theorem mrt_73 : mrt 73 = none := rfl
theorem mal_73 : mal 73 = 0 := rfl
theorem mq_74 : mnl 74 = 4 ∧ mrt 74 = none ∧ mal 74 = 0 := ⟨rfl, rfl, rfl⟩
theorem mnl_74 : mnl 74 = 4 := rfl
theorem mrt_74 : mrt 74 = none := rfl
theorem mal_74 : mal 74 = 0 := rfl
theorem mq_75 : mnl 75 = 3 ∧ mrt 75 = none ∧ mal 75 = 0 := ⟨rfl, rfl, rfl⟩
theorem mnl_75 : mnl 75 = 3 := rfl
theorem mrt_75 : mrt 75 = none := rfl
theorem mal_75 : mal 75 = 0 := rfl
theorem mq_76 : mnl 76 = 3 ∧ mrt 76 = none ∧ mal 76 = 0 := ⟨rfl, rfl, rfl⟩
theorem mnl_76 : mnl 76 = 3 := rfl
theorem mrt_76 : mrt 76 = none := rfl
theorem mal_76 : mal 76 = 0 := rfl
theorem mq_77 : mnl 77 = 2 ∧ mrt 77 = (some .boolean) ∧ mal 77 = 0 := ⟨rfl, rfl, rfl⟩
theorem mnl_77 : mnl 77 = 2 := rfl
theorem mrt_77 : mrt 77 = (some .boolean) := rfl
theorem mal_77 : mal 77 = 0 := rfl
theorem mq_78 : mnl 78 = 2 ∧ mrt 78 = none ∧ mal 78 = 0 := ⟨rfl, rfl, rfl⟩
theorem mnl_78 : mnl 78 = 2 := rfl
theorem mrt_78 : mrt 78 = none := rfl
theorem mal_78 : mal 78 = 0 := rfl
theorem mq_79 : mnl 79 = 1 ∧ mrt 79 = none ∧ mal 79 = 0 := ⟨rfl, rfl, rfl⟩
theorem mnl_79 : mnl 79 = 1 := rfl
theorem mrt_79 : mrt 79 = none := rfl
theorem mal_79 : mal 79 = 0 := rfl
theorem mq_80 : mnl 80 = 1 ∧ mrt 80 = none ∧ mal 80 = 0 := ⟨rfl, rfl, rfl⟩
theorem mnl_80 : mnl 80 = 1 := rfl
theorem mrt_80 : mrt 80 = none := rfl
theorem mal_80 : mal 80 = 0 := rfl
theorem mq_81 : mnl 81 = 2 ∧ mrt 81 = none ∧ mal 81 = 0 := ⟨rfl, rfl, rfl⟩
theorem mnl_81 : mnl 81 = 2 := rfl
theorem mrt_81 : mrt 81 = none := rfl
theorem mal_81 : mal 81 = 0 := rfl
theorem mq_82 : mnl 82 = 1 ∧ mrt 82 = none ∧ mal 82 = 1 := ⟨rfl, rfl, rfl⟩
theorem mnl_82 : mnl 82 = 1 := rfl
theorem mrt_82 : mrt 82 = none := rfl
theorem mal_82 : mal 82 = 1 := rfl
theorem mq_83 : mnl 83 = 1 ∧ mrt 83 = (some .boolean) ∧ mal 83 = 0 := ⟨rfl, rfl, rfl⟩
theorem mnl_83 : mnl 83 = 1 := rfl
theorem mrt_83 : mrt 83 = (some .boolean) := rfl
theorem mal_83 : mal 83 = 0 := rfl
theorem mq_84 : mnl 84 = 2 ∧ mrt 84 = (some .boolean) ∧ mal 84 = 0 := ⟨rfl, rfl, rfl⟩
theorem mnl_84 : mnl 84 = 2 := rfl
theorem mrt_84 : mrt 84 = (some .boolean) := rfl
theorem mal_84 : mal 84 = 0 := rfl
theorem mq_85 : mnl 85 = 3 ∧ mrt 85 = (some .boolean) ∧ mal 85 = 0 := ⟨rfl, rfl, rfl⟩
theorem mnl_85 : mnl 85 = 3 := rfl
theorem mrt_85 : mrt 85 = (some .boolean) := rfl
theorem mal_85 : mal 85 = 0 := rfl
theorem mq_86 : mnl 86 = 3 ∧ mrt 86 = (some .int) ∧ mal 86 = 0 := ⟨rfl, rfl, rfl⟩
theorem mnl_86 : mnl 86 = 3 := rfl
theorem mrt_86 : mrt 86 = (some .int) := rfl
theorem mal_86 : mal 86 = 0 := rfl
theorem mq_87 : mnl 87 = 3 ∧ mrt 87 = (some .int) ∧ mal 87 = 0 := ⟨rfl, rfl, rfl⟩
theorem mnl_87 : mnl 87 = 3 := rfl
theorem mrt_87 : mrt 87 = (some .int) := rfl
theorem mal_87 : mal 87 = 0 := rfl
theorem mq_88 : mnl 88 = 3 ∧ mrt 88 = none ∧ mal 88 = 0 := ⟨rfl, rfl, rfl⟩
theorem mnl_88 : mnl 88 = 3 := rfl
theorem mrt_88 : mrt 88 = none := rfl
theorem mal_88 : mal 88 = 0 := rfl
theorem mq_89 : mnl 89 = 7 ∧ mrt 89 = (some .int) ∧ mal 89 = 0 := ⟨rfl, rfl, rfl⟩
theorem mnl_89 : mnl 89 = 7 := rfl
theorem mrt_89 : mrt 89 = (some .int) := rfl
theorem mal_89 : mal 89 = 0 := rfl
theorem mq_90 : mnl 90 = 11 ∧ mrt 90 = (some .int) ∧ mal 90 = 0 := ⟨rfl, rfl, rfl⟩
theorem mnl_90 : mnl 90 = 11 := rfl
theorem mrt_90 : mrt 90 = (some .int) := rfl
theorem mal_90 : mal 90 = 0 := rfl
theorem mq_91 : mnl 91 = 8 ∧ mrt 91 = (some .int) ∧ mal 91 = 0 := ⟨rfl, rfl, rfl⟩
theorem mnl_91 : mnl 91 = 8 := rfl
theorem mrt_91 : mrt 91 = (some .int) := rfl
theorem mal_91 : mal 91 = 0 := rfl
theorem mq_92 : mnl 92 = 7 ∧ mrt 92 = (some .int) ∧ mal 92 = 0 := ⟨rfl, rfl, rfl⟩
theorem mnl_92 : mnl 92 = 7 := rfl
theorem mrt_92 : mrt 92 = (some .int) := rfl
theorem mal_92 : mal 92 = 0 := rfl
theorem mq_93 : mnl 93 = 2 ∧ mrt 93 = none ∧ mal 93 = 19 := ⟨rfl, rfl, rfl⟩
theorem mnl_93 : mnl 93 = 2 := rfl
theorem mrt_93 : mrt 93 = none := rfl
theorem mal_93 : mal 93 = 19 := rfl
theorem mq_94 : mnl 94 = 2 ∧ mrt 94 = (some .boolean) ∧ mal 94 = 0 := ⟨rfl, rfl, rfl⟩
theorem mnl_94 : mnl 94 = 2 := rfl
theorem mrt_94 : mrt 94 = (some .boolean) := rfl
theorem mal_94 : mal 94 = 0 := rfl
theorem mq_95 : mnl 95 = 5 ∧ mrt 95 = (some .int) ∧ mal 95 = 0 := ⟨rfl, rfl, rfl⟩
theorem mnl_95 : mnl 95 = 5 := rfl
theorem mrt_95 : mrt 95 = (some .int) := rfl
theorem mal_95 : mal 95 = 0 := rfl
theorem mq_96 : mnl 96 = 3 ∧ mrt 96 = (some .int) ∧ mal 96 = 0 := ⟨rfl, rfl, rfl⟩
theorem mnl_96 : mnl 96 = 3 := rfl
theorem mrt_96 : mrt 96 = (some .int) := rfl
theorem mal_96 : mal 96 = 0 := rfl
theorem mq_97 : mnl 97 = 8 ∧ mrt 97 = (some .int) ∧ mal 97 = 0 := ⟨rfl, rfl, rfl⟩
theorem mnl_97 : mnl 97 = 8 := rfl
theorem mrt_97 : mrt 97 = (some .int) := rfl
theorem mal_97 : mal 97 = 0 := rfl
theorem mq_98 : mnl 98 = 2 ∧ mrt 98 = (some .int) ∧ mal 98 = 0 := ⟨rfl, rfl, rfl⟩
theorem mnl_98 : mnl 98 = 2 := rfl
theorem mrt_98 : mrt 98 = (some .int) := rfl
theorem mal_98 : mal 98 = 0 := rfl
theorem mq_99 : mnl 99 = 3 ∧ mrt 99 = (some .int) ∧ mal 99 = 0 := ⟨rfl, rfl, rfl⟩
theorem mnl_99 : mnl 99 = 3 := rfl
theorem mrt_99 : mrt 99 = (some .int) := rfl
theorem mal_99 : mal 99 = 0 := rfl
theorem mq_100 : mnl 100 = 1 ∧ mrt 100 = none ∧ mal 100 = 2 := ⟨rfl, rfl, rfl⟩
theorem mnl_100 : mnl 100 = 1 := rfl
theorem mrt_100 : mrt 100 = none := rfl
theorem mal_100 : mal 100 = 2 := rfl
theorem mq_101 : mnl 101 = 2 ∧ mrt 101 = (some .int) ∧ mal 101 = 0 := ⟨rfl, rfl, rfl⟩
theorem mnl_101 : mnl 101 = 2 := rfl
theorem mrt_101 : mrt 101 = (some .int) := rfl
theorem mal_101 : mal 101 = 0 := rfl
theorem mq_102 : mnl 102 = 3 ∧ mrt 102 = (some .int) ∧ mal 102 = 0 := ⟨rfl, rfl, rfl⟩
theorem mnl_102 : mnl 102 = 3 := rfl
theorem mrt_102 : mrt 102 = (some .int) := rfl
theorem mal_102 : mal 102 = 0 := rfl
theorem mq_103 : mnl 103 = 2 ∧ mrt 103 = (some .boolean) ∧ mal 103 = 0 := ⟨rfl, rfl, rfl⟩
theorem mnl_103 : mnl 103 = 2 := rfl
theorem mrt_103 : mrt 103 = (some .boolean) := rfl
theorem mal_103 : mal 103 = 0 := rfl
theorem mq_104 : mnl 104 = 4 ∧ mrt 104 = (some .int) ∧ mal 104 = 0 := ⟨rfl, rfl, rfl⟩
theorem mnl_104 : mnl 104 = 4 := rfl
theorem mrt_104 : mrt 104 = (some .int) := rfl
theorem mal_104 : mal 104 = 0 := rfl
theorem mq_105 : mnl 105 = 12 ∧ mrt 105 = (some .boolean) ∧ mal 105 = 0 := ⟨rfl, rfl, rfl⟩
theorem mnl_105 : mnl 105 = 12 := rfl
theorem mrt_105 : mrt 105 = (some .boolean) := rfl
theorem mal_105 : mal 105 = 0 := rfl
theorem mq_106 : mnl 106 = 6 ∧ mrt 106 = (some .long) ∧ mal 106 = 0 := ⟨rfl, rfl, rfl⟩
theorem mnl_106 : mnl 106 = 6 := rfl
theorem mrt_106 : mrt 106 = (some .long) := rfl
theorem mal_106 : mal 106 = 0 := rfl
theorem mq_107 : mnl 107 = 1 ∧ mrt 107 = none ∧ mal 107 = 96 := ⟨rfl, rfl, rfl⟩
theorem mnl_107 : mnl 107 = 1 := rfl
theorem mrt_107 : mrt 107 = none := rfl
theorem mal_107 : mal 107 = 96 := rfl
theorem mq_108 : mnl 108 = 4 ∧ mrt 108 = (some .int) ∧ mal 108 = 0 := ⟨rfl, rfl, rfl⟩
theorem mnl_108 : mnl 108 = 4 := rfl
theorem mrt_108 : mrt 108 = (some .int) := rfl
theorem mal_108 : mal 108 = 0 := rfl
theorem mq_109 : mnl 109 = 4 ∧ mrt 109 = (some .int) ∧ mal 109 = 0 := ⟨rfl, rfl, rfl⟩
theorem mnl_109 : mnl 109 = 4 := rfl
theorem mrt_109 : mrt 109 = (some .int) := rfl
theorem mal_109 : mal 109 = 0 := rfl
theorem mq_110 : mnl 110 = 4 ∧ mrt 110 = (some .int) ∧ mal 110 = 0 := ⟨rfl, rfl, rfl⟩
theorem mnl_110 : mnl 110 = 4 := rfl
theorem mrt_110 : mrt 110 = (some .int) := rfl
theorem mal_110 : mal 110 = 0 := rfl
theorem mq_111 : mnl 111 = 3 ∧ mrt 111 = (some .int) ∧ mal 111 = 0 := ⟨rfl, rfl, rfl⟩
theorem mnl_111 : mnl 111 = 3 := rfl
theorem mrt_111 : mrt 111 = (some .int) := rfl
theorem mal_111 : mal 111 = 0 := rfl
theorem mq_112 : mnl 112 = 5 ∧ mrt 112 = (some .int) ∧ mal 112 = 0 := ⟨rfl, rfl, rfl⟩
theorem mnl_112 : mnl 112 = 5 := rfl
theorem mrt_112 : mrt 112 = (some .int) := rfl
theorem mal_112 : mal 112 = 0 := rfl
theorem mq_113 : mnl 113 = 4 ∧ mrt 113 = (some .int) ∧ mal 113 = 0 := ⟨rfl, rfl, rfl⟩
theorem mnl_113 : mnl 113 = 4 := rfl
theorem mrt_113 : mrt 113 = (some .int) := rfl
theorem mal_113 : mal 113 = 0 := rfl
theorem mq_114 : mnl 114 = 5 ∧ mrt 114 = (some .int) ∧ mal 114 = 0 := ⟨rfl, rfl, rfl⟩
theorem mnl_114 : mnl 114 = 5 := rfl
theorem mrt_114 : mrt 114 = (some .int) := rfl
theorem mal_114 : mal 114 = 0 := rfl
theorem mq_115 : mnl 115 = 4 ∧ mrt 115 = (some .int) ∧ mal 115 = 0 := ⟨rfl, rfl, rfl⟩
theorem mnl_115 : mnl 115 = 4 := rfl
theorem mrt_115 : mrt 115 = (some .int) := rfl
theorem mal_115 : mal 115 = 0 := rfl
theorem mq_116 : mnl 116 = 3 ∧ mrt 116 = (some .int) ∧ mal 116 = 0 := ⟨rfl, rfl, rfl⟩
theorem mnl_116 : mnl 116 = 3 := rfl
theorem mrt_116 : mrt 116 = (some .int) := rfl
theorem mal_116 : mal 116 = 0 := rfl
theorem mq_117 : mnl 117 = 3 ∧ mrt 117 = (some .int) ∧ mal 117 = 0 := ⟨rfl, rfl, rfl⟩
theorem mnl_117 : mnl 117 = 3 := rfl
theorem mrt_117 : mrt 117 = (some .int) := rfl
theorem mal_117 : mal 117 = 0 := rfl
theorem mq_118 : mnl 118 = 3 ∧ mrt 118 = (some .long) ∧ mal 118 = 0 := ⟨rfl, rfl, rfl⟩
theorem mnl_118 : mnl 118 = 3 := rfl
theorem mrt_118 : mrt 118 = (some .long) := rfl
theorem mal_118 : mal 118 = 0 := rfl
theorem mq_119 : mnl 119 = 3 ∧ mrt 119 = (some .long) ∧ mal 119 = 0 := ⟨rfl, rfl, rfl⟩
theorem mnl_119 : mnl 119 = 3 := rfl
theorem mrt_119 : mrt 119 = (some .long) := rfl
theorem mal_119 : mal 119 = 0 := rfl
theorem mq_120 : mnl 120 = 4 ∧ mrt 120 = (some .int) ∧ mal 120 = 0 := ⟨rfl, rfl, rfl⟩
theorem mnl_120 : mnl 120 = 4 := rfl
theorem mrt_120 : mrt 120 = (some .int) := rfl
theorem mal_120 : mal 120 = 0 := rfl
theorem mq_121 : mnl 121 = 1 ∧ mrt 121 = (some .int) ∧ mal 121 = 0 := ⟨rfl, rfl, rfl⟩
theorem mnl_121 : mnl 121 = 1 := rfl
theorem mrt_121 : mrt 121 = (some .int) := rfl
theorem mal_121 : mal 121 = 0 := rfl
theorem mq_122 : mnl 122 = 4 ∧ mrt 122 = (some .int) ∧ mal 122 = 0 := ⟨rfl, rfl, rfl⟩
theorem mnl_122 : mnl 122 = 4 := rfl
theorem mrt_122 : mrt 122 = (some .int) := rfl
theorem mal_122 : mal 122 = 0 := rfl
theorem mq_123 : mnl 123 = 5 ∧ mrt 123 = (some .long) ∧ mal 123 = 0 := ⟨rfl, rfl, rfl⟩
theorem mnl_123 : mnl 123 = 5 := rfl
theorem mrt_123 : mrt 123 = (some .long) := rfl
theorem mal_123 : mal 123 = 0 := rfl
theorem mq_124 : mnl 124 = 3 ∧ mrt 124 = (some .int) ∧ mal 124 = 0 := ⟨rfl, rfl, rfl⟩
theorem mnl_124 : mnl 124 = 3 := rfl
theorem mrt_124 : mrt 124 = (some .int) := rfl
theorem mal_124 : mal 124 = 0 := rfl
theorem mq_125 : mnl 125 = 2 ∧ mrt 125 = (some .int) ∧ mal 125 = 0 := ⟨rfl, rfl, rfl⟩
theorem mnl_125 : mnl 125 = 2 := rfl
theorem mrt_125 : mrt 125 = (some .int) := rfl
theorem mal_125 : mal 125 = 0 := rfl
theorem mq_126 : mnl 126 = 6 ∧ mrt 126 = (some .int) ∧ mal 126 = 0 := ⟨rfl, rfl, rfl⟩
theorem mnl_126 : mnl 126 = 6 := rfl
theorem mrt_126 : mrt 126 = (some .int) := rfl
theorem mal_126 : mal 126 = 0 := rfl
theorem mq_127 : mnl 127 = 4 ∧ mrt 127 = (some .int) ∧ mal 127 = 0 := ⟨rfl, rfl, rfl⟩
theorem mnl_127 : mnl 127 = 4 := rfl
theorem mrt_127 : mrt 127 = (some .int) := rfl
theorem mal_127 : mal 127 = 0 := rfl
theorem mq_128 : mnl 128 = 4 ∧ mrt 128 = (some .int) ∧ mal 128 = 0 := ⟨rfl, rfl, rfl⟩
theorem mnl_128 : mnl 128 = 4 := rfl
theorem mrt_128 : mrt 128 = (some .int) := rfl
theorem mal_128 : mal 128 = 0 := rfl
theorem mq_129 : mnl 129 = 5 ∧ mrt 129 = (some .int) ∧ mal 129 = 0 := ⟨rfl, rfl, rfl⟩
theorem mnl_129 : mnl 129 = 5 := rfl
theorem mrt_129 : mrt 129 = (some .int) := rfl
theorem mal_129 : mal 129 = 0 := rfl
theorem mq_130 : mnl 130 = 2 ∧ mrt 130 = (some .int) ∧ mal 130 = 0 := ⟨rfl, rfl, rfl⟩
theorem mnl_130 : mnl 130 = 2 := rfl
theorem mrt_130 : mrt 130 = (some .int) := rfl
theorem mal_130 : mal 130 = 0 := rfl
theorem mq_131 : mnl 131 = 3 ∧ mrt 131 = (some .int) ∧ mal 131 = 0 := ⟨rfl, rfl, rfl⟩
theorem mnl_131 : mnl 131 = 3 := rfl
theorem mrt_131 : mrt 131 = (some .int) := rfl
theorem mal_131 : mal 131 = 0 := rfl
theorem mq_132 : mnl 132 = 1 ∧ mrt 132 = (some .int) ∧ mal 132 = 0 := ⟨rfl, rfl, rfl⟩
theorem mnl_132 : mnl 132 = 1 := rfl
theorem mrt_132 : mrt 132 = (some .int) := rfl
theorem mal_132 : mal 132 = 0 := rfl
theorem mq_133 : mnl 133 = 4 ∧ mrt 133 = (some .int) ∧ mal 133 = 0 := ⟨rfl, rfl, rfl⟩
theorem mnl_133 : mnl 133 = 4 := rfl
theorem mrt_133 : mrt 133 = (some .int) := rfl
theorem mal_133 : mal 133 = 0 := rfl
theorem mq_134 : mnl 134 = 2 ∧ mrt 134 = (some .int) ∧ mal 134 = 0 := ⟨rfl, rfl, rfl⟩
theorem mnl_134 : mnl 134 = 2 := rfl
theorem mrt_134 : mrt 134 = (some .int) := rfl
theorem mal_134 : mal 134 = 0 := rfl
theorem mq_135 : mnl 135 = 4 ∧ mrt 135 = (some .int) ∧ mal 135 = 0 := ⟨rfl, rfl, rfl⟩
theorem mnl_135 : mnl 135 = 4 := rfl
theorem mrt_135 : mrt 135 = (some .int) := rfl
theorem mal_135 : mal 135 = 0 := rfl
theorem mq_136 : mnl 136 = 1 ∧ mrt 136 = (some .int) ∧ mal 136 = 0 := ⟨rfl, rfl, rfl⟩
theorem mnl_136 : mnl 136 = 1 := rfl
theorem mrt_136 : mrt 136 = (some .int) := rfl
theorem mal_136 : mal 136 = 0 := rfl
theorem mq_137 : mnl 137 = 5 ∧ mrt 137 = (some .int) ∧ mal 137 = 0 := ⟨rfl, rfl, rfl⟩
theorem mnl_137 : mnl 137 = 5 := rfl
theorem mrt_137 : mrt 137 = (some .int) := rfl
theorem mal_137 : mal 137 = 0 := rfl
theorem mq_138 : mnl 138 = 4 ∧ mrt 138 = (some .int) ∧ mal 138 = 0 := ⟨rfl, rfl, rfl⟩
theorem mnl_138 : mnl 138 = 4 := rfl
theorem mrt_138 : mrt 138 = (some .int) := rfl
theorem mal_138 : mal 138 = 0 := rfl
theorem mq_139 : mnl 139 = 5 ∧ mrt 139 = (some .int) ∧ mal 139 = 0 := ⟨rfl, rfl, rfl⟩
theorem mnl_139 : mnl 139 = 5 := rfl
theorem mrt_139 : mrt 139 = (some .int) := rfl
theorem mal_139 : mal 139 = 0 := rfl
theorem mq_140 : mnl 140 = 2 ∧ mrt 140 = (some .int) ∧ mal 140 = 0 := ⟨rfl, rfl, rfl⟩
theorem mnl_140 : mnl 140 = 2 := rfl
theorem mrt_140 : mrt 140 = (some .int) := rfl
theorem mal_140 : mal 140 = 0 := rfl
theorem mq_141 : mnl 141 = 5 ∧ mrt 141 = (some .int) ∧ mal 141 = 0 := ⟨rfl, rfl, rfl⟩
theorem mnl_141 : mnl 141 = 5 := rfl
theorem mrt_141 : mrt 141 = (some .int) := rfl
theorem mal_141 : mal 141 = 0 := rfl
theorem mq_142 : mnl 142 = 4 ∧ mrt 142 = (some .int) ∧ mal 142 = 0 := ⟨rfl, rfl, rfl⟩
theorem mnl_142 : mnl 142 = 4 := rfl
theorem mrt_142 : mrt 142 = (some .int) := rfl
theorem mal_142 : mal 142 = 0 := rfl
theorem mq_143 : mnl 143 = 2 ∧ mrt 143 = (some .int) ∧ mal 143 = 0 := ⟨rfl, rfl, rfl⟩
theorem mnl_143 : mnl 143 = 2 := rfl
theorem mrt_143 : mrt 143 = (some .int) := rfl
theorem mal_143 : mal 143 = 0 := rfl
theorem mq_144 : mnl 144 = 4 ∧ mrt 144 = (some .int) ∧ mal 144 = 0 := ⟨rfl, rfl, rfl⟩
theorem mnl_144 : mnl 144 = 4 := rfl
theorem mrt_144 : mrt 144 = (some .int) := rfl
theorem mal_144 : mal 144 = 0 := rfl
theorem mq_145 : mnl 145 = 3 ∧ mrt 145 = (some .int) ∧ mal 145 = 0 := ⟨rfl, rfl, rfl⟩
theorem mnl_145 : mnl 145 = 3 := rfl
theorem mrt_145 : mrt 145 = (some .int) := rfl
theorem mal_145 : mal 145 = 0 := rfl
theorem mq_146 : mnl 146 = 2 ∧ mrt 146 = (some .int) ∧ mal 146 = 0 := ⟨rfl, rfl, rfl⟩
theorem mnl_146 : mnl 146 = 2 := rfl
theorem mrt_146 : mrt 146 = (some .int) := rfl
theorem mal_146 : mal 146 = 0 := rfl
theorem mq_147 : mnl 147 = 2 ∧ mrt 147 = (some .int) ∧ mal 147 = 0 := ⟨rfl, rfl, rfl⟩
theorem mnl_147 : mnl 147 = 2 := rfl
theorem mrt_147 : mrt 147 = (some .int) := rfl
theorem mal_147 : mal 147 = 0 := rfl
theorem mq_148 : mnl 148 = 4 ∧ mrt 148 = (some .int) ∧ mal 148 = 0 := ⟨rfl, rfl, rfl⟩
theorem mnl_148 : mnl 148 = 4 := rfl
theorem mrt_148 : mrt 148 = (some .int) := rfl
theorem mal_148 : mal 148 = 0 := rfl
theorem mq_149 : mnl 149 = 2 ∧ mrt 149 = (some .long) ∧ mal 149 = 0 := ⟨rfl, rfl, rfl⟩
theorem mnl_149 : mnl 149 = 2 := rfl
theorem mrt_149 : mrt 149 = (some .long) := rfl
theorem mal_149 : mal 149 = 0 := rfl
theorem mq_150 : mnl 150 = 2 ∧ mrt 150 = (some .int) ∧ mal 150 = 0 := ⟨rfl, rfl, rfl⟩
theorem mnl_150 : mnl 150 = 2 := rfl
theorem mrt_150 : mrt 150 = (some .int) := rfl
theorem mal_150 : mal 150 = 0 := rfl
theorem mq_151 : mnl 151 = 4 ∧ mrt 151 = (some .int) ∧ mal 151 = 0 := ⟨rfl, rfl, rfl⟩
theorem mnl_151 : mnl 151 = 4 := rfl
theorem mrt_151 : mrt 151 = (some .int) := rfl
theorem mal_151 : mal 151 = 0 := rfl
theorem mq_152 : mnl 152 = 5 ∧ mrt 152 = (some .int) ∧ mal 152 = 0 := ⟨rfl, rfl, rfl⟩
theorem mnl_152 : mnl 152 = 5 := rfl
theorem mrt_152 : mrt 152 = (some .int) := rfl
theorem mal_152 : mal 152 = 0 := rfl
theorem mq_153 : mnl 153 = 8 ∧ mrt 153 = (some .int) ∧ mal 153 = 0 := ⟨rfl, rfl, rfl⟩
theorem mnl_153 : mnl 153 = 8 := rfl
theorem mrt_153 : mrt 153 = (some .int) := rfl
theorem mal_153 : mal 153 = 0 := rfl
theorem mq_154 : mnl 154 = 7 ∧ mrt 154 = (some .int) ∧ mal 154 = 0 := ⟨rfl, rfl, rfl⟩
theorem mnl_154 : mnl 154 = 7 := rfl
theorem mrt_154 : mrt 154 = (some .int) := rfl
theorem mal_154 : mal 154 = 0 := rfl
theorem mq_155 : mnl 155 = 4 ∧ mrt 155 = (some .int) ∧ mal 155 = 0 := ⟨rfl, rfl, rfl⟩
theorem mnl_155 : mnl 155 = 4 := rfl
theorem mrt_155 : mrt 155 = (some .int) := rfl
theorem mal_155 : mal 155 = 0 := rfl
theorem mq_156 : mnl 156 = 9 ∧ mrt 156 = (some .int) ∧ mal 156 = 0 := ⟨rfl, rfl, rfl⟩
theorem mnl_156 : mnl 156 = 9 := rfl
theorem mrt_156 : mrt 156 = (some .int) := rfl
theorem mal_156 : mal 156 = 0 := rfl
theorem mq_157 : mnl 157 = 3 ∧ mrt 157 = (some .boolean) ∧ mal 157 = 0 := ⟨rfl, rfl, rfl⟩
theorem mnl_157 : mnl 157 = 3 := rfl
theorem mrt_157 : mrt 157 = (some .boolean) := rfl
theorem mal_157 : mal 157 = 0 := rfl
theorem mq_158 : mnl 158 = 1 ∧ mrt 158 = (some .boolean) ∧ mal 158 = 0 := ⟨rfl, rfl, rfl⟩
theorem mnl_158 : mnl 158 = 1 := rfl
theorem mrt_158 : mrt 158 = (some .boolean) := rfl
theorem mal_158 : mal 158 = 0 := rfl
theorem mq_159 : mnl 159 = 1 ∧ mrt 159 = (some .boolean) ∧ mal 159 = 0 := ⟨rfl, rfl, rfl⟩
theorem mnl_159 : mnl 159 = 1 := rfl
theorem mrt_159 : mrt 159 = (some .boolean) := rfl
theorem mal_159 : mal 159 = 0 := rfl
theorem mq_160 : mnl 160 = 1 ∧ mrt 160 = (some .boolean) ∧ mal 160 = 0 := ⟨rfl, rfl, rfl⟩
theorem mnl_160 : mnl 160 = 1 := rfl
theorem mrt_160 : mrt 160 = (some .boolean) := rfl
theorem mal_160 : mal 160 = 0 := rfl
theorem mq_161 : mnl 161 = 1 ∧ mrt 161 = (some .boolean) ∧ mal 161 = 0 := ⟨rfl, rfl, rfl⟩
theorem mnl_161 : mnl 161 = 1 := rfl
theorem mrt_161 : mrt 161 = (some .boolean) := rfl
theorem mal_161 : mal 161 = 0 := rfl
theorem mq_162 : mnl 162 = 1 ∧ mrt 162 = (some .boolean) ∧ mal 162 = 0 := ⟨rfl, rfl, rfl⟩
theorem mnl_162 : mnl 162 = 1 := rfl
theorem mrt_162 : mrt 162 = (some .boolean) := rfl
theorem mal_162 : mal 162 = 0 := rfl
theorem mq_163 : mnl 163 = 1 ∧ mrt 163 = (some .boolean) ∧ mal 163 = 0 := ⟨rfl, rfl, rfl⟩
theorem mnl_163 : mnl 163 = 1 := rfl
theorem mrt_163 : mrt 163 = (some .boolean) := rfl
theorem mal_163 : mal 163 = 0 := rfl
theorem mq_164 : mnl 164 = 1 ∧ mrt 164 = (some .boolean) ∧ mal 164 = 0 := ⟨rfl, rfl, rfl⟩
theorem mnl_164 : mnl 164 = 1 := rfl
theorem mrt_164 : mrt 164 = (some .boolean) := rfl
theorem mal_164 : mal 164 = 0 := rfl
theorem mq_165 : mnl 165 = 2 ∧ mrt 165 = (some .boolean) ∧ mal 165 = 0 := ⟨rfl, rfl, rfl⟩
theorem mnl_165 : mnl 165 = 2 := rfl
theorem mrt_165 : mrt 165 = (some .boolean) := rfl
theorem mal_165 : mal 165 = 0 := rfl
theorem mq_166 : mnl 166 = 2 ∧ mrt 166 = (some .boolean) ∧ mal 166 = 0 := ⟨rfl, rfl, rfl⟩
theorem mnl_166 : mnl 166 = 2 := rfl
theorem mrt_166 : mrt 166 = (some .boolean) := rfl
theorem mal_166 : mal 166 = 0 := rfl
theorem mq_167 : mnl 167 = 1 ∧ mrt 167 = (some .int) ∧ mal 167 = 0 := ⟨rfl, rfl, rfl⟩
theorem mnl_167 : mnl 167 = 1 := rfl
theorem mrt_167 : mrt 167 = (some .int) := rfl
theorem mal_167 : mal 167 = 0 := rfl
theorem mq_168 : mnl 168 = 2 ∧ mrt 168 = (some .int) ∧ mal 168 = 0 := ⟨rfl, rfl, rfl⟩
theorem mnl_168 : mnl 168 = 2 := rfl
theorem mrt_168 : mrt 168 = (some .int) := rfl
theorem mal_168 : mal 168 = 0 := rfl
theorem mq_169 : mnl 169 = 2 ∧ mrt 169 = (some .boolean) ∧ mal 169 = 0 := ⟨rfl, rfl, rfl⟩
theorem mnl_169 : mnl 169 = 2 := rfl
theorem mrt_169 : mrt 169 = (some .boolean) := rfl
theorem mal_169 : mal 169 = 0 := rfl
theorem mq_170 : mnl 170 = 4 ∧ mrt 170 = (some .boolean) ∧ mal 170 = 0 := ⟨rfl, rfl, rfl⟩
theorem mnl_170 : mnl 170 = 4 := rfl
theorem mrt_170 : mrt 170 = (some .boolean) := rfl
theorem mal_170 : mal 170 = 0 := rfl
theorem mq_171 : mnl 171 = 2 ∧ mrt 171 = none ∧ mal 171 = 47 := ⟨rfl, rfl, rfl⟩
theorem mnl_171 : mnl 171 = 2 := rfl
theorem mrt_171 : mrt 171 = none := rfl
theorem mal_171 : mal 171 = 47 := rfl
theorem mq_172 : mnl 172 = 2 ∧ mrt 172 = (some .boolean) ∧ mal 172 = 0 := ⟨rfl, rfl, rfl⟩
theorem mnl_172 : mnl 172 = 2 := rfl
theorem mrt_172 : mrt 172 = (some .boolean) := rfl
theorem mal_172 : mal 172 = 0 := rfl
theorem mq_173 : mnl 173 = 2 ∧ mrt 173 = (some .boolean) ∧ mal 173 = 0 := ⟨rfl, rfl, rfl⟩
theorem mnl_173 : mnl 173 = 2 := rfl
theorem mrt_173 : mrt 173 = (some .boolean) := rfl
theorem mal_173 : mal 173 = 0 := rfl
theorem mq_174 : mnl 174 = 4 ∧ mrt 174 = (some .int) ∧ mal 174 = 0 := ⟨rfl, rfl, rfl⟩
theorem mnl_174 : mnl 174 = 4 := rfl
theorem mrt_174 : mrt 174 = (some .int) := rfl
theorem mal_174 : mal 174 = 0 := rfl
theorem mq_175 : mnl 175 = 4 ∧ mrt 175 = (some .int) ∧ mal 175 = 0 := ⟨rfl, rfl, rfl⟩
theorem mnl_175 : mnl 175 = 4 := rfl
theorem mrt_175 : mrt 175 = (some .int) := rfl
theorem mal_175 : mal 175 = 0 := rfl
theorem mq_176 : mnl 176 = 4 ∧ mrt 176 = (some .int) ∧ mal 176 = 0 := ⟨rfl, rfl, rfl⟩
theorem mnl_176 : mnl 176 = 4 := rfl
theorem mrt_176 : mrt 176 = (some .int) := rfl
theorem mal_176 : mal 176 = 0 := rfl
theorem mq_177 : mnl 177 = 2 ∧ mrt 177 = (some .int) ∧ mal 177 = 0 := ⟨rfl, rfl, rfl⟩
theorem mnl_177 : mnl 177 = 2 := rfl
theorem mrt_177 : mrt 177 = (some .int) := rfl
theorem mal_177 : mal 177 = 0 := rfl
theorem mq_178 : mnl 178 = 2 ∧ mrt 178 = (some .int) ∧ mal 178 = 0 := ⟨rfl, rfl, rfl⟩
theorem mnl_178 : mnl 178 = 2 := rfl
theorem mrt_178 : mrt 178 = (some .int) := rfl
theorem mal_178 : mal 178 = 0 := rfl
theorem mq_179 : mnl 179 = 3 ∧ mrt 179 = (some .int) ∧ mal 179 = 0 := ⟨rfl, rfl, rfl⟩
theorem mnl_179 : mnl 179 = 3 := rfl
theorem mrt_179 : mrt 179 = (some .int) := rfl
theorem mal_179 : mal 179 = 0 := rfl
theorem mq_180 : mnl 180 = 2 ∧ mrt 180 = (some .int) ∧ mal 180 = 0 := ⟨rfl, rfl, rfl⟩
theorem mnl_180 : mnl 180 = 2 := rfl
theorem mrt_180 : mrt 180 = (some .int) := rfl
theorem mal_180 : mal 180 = 0 := rfl
theorem mq_181 : mnl 181 = 5 ∧ mrt 181 = (some .int) ∧ mal 181 = 0 := ⟨rfl, rfl, rfl⟩
theorem mnl_181 : mnl 181 = 5 := rfl
theorem mrt_181 : mrt 181 = (some .int) := rfl
theorem mal_181 : mal 181 = 0 := rfl
theorem mq_182 : mnl 182 = 2 ∧ mrt 182 = (some .boolean) ∧ mal 182 = 0 := ⟨rfl, rfl, rfl⟩
theorem mnl_182 : mnl 182 = 2 := rfl
theorem mrt_182 : mrt 182 = (some .boolean) := rfl
theorem mal_182 : mal 182 = 0 := rfl
theorem mq_183 : mnl 183 = 2 ∧ mrt 183 = (some .boolean) ∧ mal 183 = 0 := ⟨rfl, rfl, rfl⟩
theorem mnl_183 : mnl 183 = 2 := rfl
theorem mrt_183 : mrt 183 = (some .boolean) := rfl
theorem mal_183 : mal 183 = 0 := rfl
theorem mq_184 : mnl 184 = 5 ∧ mrt 184 = (some .int) ∧ mal 184 = 0 := ⟨rfl, rfl, rfl⟩
theorem mnl_184 : mnl 184 = 5 := rfl
theorem mrt_184 : mrt 184 = (some .int) := rfl
theorem mal_184 : mal 184 = 0 := rfl
theorem mq_185 : mnl 185 = 3 ∧ mrt 185 = (some .boolean) ∧ mal 185 = 0 := ⟨rfl, rfl, rfl⟩
theorem mnl_185 : mnl 185 = 3 := rfl
theorem mrt_185 : mrt 185 = (some .boolean) := rfl
theorem mal_185 : mal 185 = 0 := rfl
theorem mq_186 : mnl 186 = 3 ∧ mrt 186 = (some .int) ∧ mal 186 = 0 := ⟨rfl, rfl, rfl⟩
theorem mnl_186 : mnl 186 = 3 := rfl
theorem mrt_186 : mrt 186 = (some .int) := rfl
theorem mal_186 : mal 186 = 0 := rfl
theorem mq_187 : mnl 187 = 4 ∧ mrt 187 = (some .int) ∧ mal 187 = 0 := ⟨rfl, rfl, rfl⟩
theorem mnl_187 : mnl 187 = 4 := rfl
theorem mrt_187 : mrt 187 = (some .int) := rfl
theorem mal_187 : mal 187 = 0 := rfl
theorem mq_188 : mnl 188 = 2 ∧ mrt 188 = (some .int) ∧ mal 188 = 0 := ⟨rfl, rfl, rfl⟩
theorem mnl_188 : mnl 188 = 2 := rfl
theorem mrt_188 : mrt 188 = (some .int) := rfl
theorem mal_188 : mal 188 = 0 := rfl
theorem mq_189 : mnl 189 = 3 ∧ mrt 189 = (some .int) ∧ mal 189 = 0 := ⟨rfl, rfl, rfl⟩
theorem mnl_189 : mnl 189 = 3 := rfl
theorem mrt_189 : mrt 189 = (some .int) := rfl
theorem mal_189 : mal 189 = 0 := rfl
theorem mq_190 : mnl 190 = 3 ∧ mrt 190 = (some .int) ∧ mal 190 = 0 := ⟨rfl, rfl, rfl⟩
theorem mnl_190 : mnl 190 = 3 := rfl
theorem mrt_190 : mrt 190 = (some .int) := rfl
theorem mal_190 : mal 190 = 0 := rfl
theorem mq_191 : mnl 191 = 3 ∧ mrt 191 = (some .int) ∧ mal 191 = 0 := ⟨rfl, rfl, rfl⟩
theorem mnl_191 : mnl 191 = 3 := rfl
theorem mrt_191 : mrt 191 = (some .int) := rfl
theorem mal_191 : mal 191 = 0 := rfl
theorem mq_192 : mnl 192 = 6 ∧ mrt 192 = (some .int) ∧ mal 192 = 0 := ⟨rfl, rfl, rfl⟩
theorem mnl_192 : mnl 192 = 6 := rfl
theorem mrt_192 : mrt 192 = (some .int) := rfl
theorem mal_192 : mal 192 = 0 := rfl
theorem mq_193 : mnl 193 = 3 ∧ mrt 193 = (some .int) ∧ mal 193 = 0 := ⟨rfl, rfl, rfl⟩
theorem mnl_193 : mnl 193 = 3 := rfl
theorem mrt_193 : mrt 193 = (some .int) := rfl
theorem mal_193 : mal 193 = 0 := rfl
theorem mq_194 : mnl 194 = 8 ∧ mrt 194 = (some .boolean) ∧ mal 194 = 0 := ⟨rfl, rfl, rfl⟩
theorem mnl_194 : mnl 194 = 8 := rfl
theorem mrt_194 : mrt 194 = (some .boolean) := rfl
theorem mal_194 : mal 194 = 0 := rfl
theorem mq_195 : mnl 195 = 8 ∧ mrt 195 = (some .long) ∧ mal 195 = 0 := ⟨rfl, rfl, rfl⟩
theorem mnl_195 : mnl 195 = 8 := rfl
theorem mrt_195 : mrt 195 = (some .long) := rfl
theorem mal_195 : mal 195 = 0 := rfl
theorem mq_196 : mnl 196 = 3 ∧ mrt 196 = (some .long) ∧ mal 196 = 0 := ⟨rfl, rfl, rfl⟩
theorem mnl_196 : mnl 196 = 3 := rfl
theorem mrt_196 : mrt 196 = (some .long) := rfl
theorem mal_196 : mal 196 = 0 := rfl
theorem mq_197 : mnl 197 = 3 ∧ mrt 197 = (some .long) ∧ mal 197 = 0 := ⟨rfl, rfl, rfl⟩
theorem mnl_197 : mnl 197 = 3 := rfl
theorem mrt_197 : mrt 197 = (some .long) := rfl
theorem mal_197 : mal 197 = 0 := rfl
theorem mq_198 : mnl 198 = 6 ∧ mrt 198 = (some .long) ∧ mal 198 = 0 := ⟨rfl, rfl, rfl⟩
theorem mnl_198 : mnl 198 = 6 := rfl
theorem mrt_198 : mrt 198 = (some .long) := rfl
theorem mal_198 : mal 198 = 0 := rfl
theorem mq_199 : mnl 199 = 3 ∧ mrt 199 = (some .long) ∧ mal 199 = 0 := ⟨rfl, rfl, rfl⟩
theorem mnl_199 : mnl 199 = 3 := rfl
theorem mrt_199 : mrt 199 = (some .long) := rfl
theorem mal_199 : mal 199 = 0 := rfl
theorem mq_200 : mnl 200 = 1 ∧ mrt 200 = none ∧ mal 200 = 0 := ⟨rfl, rfl, rfl⟩
theorem mnl_200 : mnl 200 = 1 := rfl
theorem mrt_200 : mrt 200 = none := rfl
theorem mal_200 : mal 200 = 0 := rfl
theorem mq_201 : mnl 201 = 5 ∧ mrt 201 = (some .int) ∧ mal 201 = 0 := ⟨rfl, rfl, rfl⟩
theorem mnl_201 : mnl 201 = 5 := rfl
theorem mrt_201 : mrt 201 = (some .int) := rfl
theorem mal_201 : mal 201 = 0 := rfl
theorem mq_202 : mnl 202 = 2 ∧ mrt 202 = (some .boolean) ∧ mal 202 = 0 := ⟨rfl, rfl, rfl⟩
theorem mnl_202 : mnl 202 = 2 := rfl
theorem mrt_202 : mrt 202 = (some .boolean) := rfl
theorem mal_202 : mal 202 = 0 := rfl
theorem mq_203 : mnl 203 = 2 ∧ mrt 203 = (some .boolean) ∧ mal 203 = 0 := ⟨rfl, rfl, rfl⟩
theorem mnl_203 : mnl 203 = 2 := rfl
theorem mrt_203 : mrt 203 = (some .boolean) := rfl
theorem mal_203 : mal 203 = 0 := rfl
theorem mq_204 : mnl 204 = 6 ∧ mrt 204 = (some .boolean) ∧ mal 204 = 0 := ⟨rfl, rfl, rfl⟩
theorem mnl_204 : mnl 204 = 6 := rfl
theorem mrt_204 : mrt 204 = (some .boolean) := rfl
theorem mal_204 : mal 204 = 0 := rfl
theorem mq_205 : mnl 205 = 1 ∧ mrt 205 = none ∧ mal 205 = 0 := ⟨rfl, rfl, rfl⟩
theorem mnl_205 : mnl 205 = 1 := rfl
theorem mrt_205 : mrt 205 = none := rfl
theorem mal_205 : mal 205 = 0 := rfl
theorem mq_206 : mnl 206 = 2 ∧ mrt 206 = none ∧ mal 206 = 0 := ⟨rfl, rfl, rfl⟩
theorem mnl_206 : mnl 206 = 2 := rfl
theorem mrt_206 : mrt 206 = none := rfl
theorem mal_206 : mal 206 = 0 := rfl
theorem mq_207 : mnl 207 = 2 ∧ mrt 207 = (some .boolean) ∧ mal 207 = 0 := ⟨rfl, rfl, rfl⟩
theorem mnl_207 : mnl 207 = 2 := rfl
theorem mrt_207 : mrt 207 = (some .boolean) := rfl
theorem mal_207 : mal 207 = 0 := rfl
theorem mq_208 : mnl 208 = 2 ∧ mrt 208 = (some .boolean) ∧ mal 208 = 0 := ⟨rfl, rfl, rfl⟩
theorem mnl_208 : mnl 208 = 2 := rfl
theorem mrt_208 : mrt 208 = (some .boolean) := rfl
theorem mal_208 : mal 208 = 0 := rfl
theorem mq_209 : mnl 209 = 2 ∧ mrt 209 = none ∧ mal 209 = 0 := ⟨rfl, rfl, rfl⟩
theorem mnl_209 : mnl 209 = 2 := rfl
theorem mrt_209 : mrt 209 = none := rfl
theorem mal_209 : mal 209 = 0 := rfl
theorem mq_210 : mnl 210 = 2 ∧ mrt 210 = (some .int) ∧ mal 210 = 0 := ⟨rfl, rfl, rfl⟩
theorem mnl_210 : mnl 210 = 2 := rfl
theorem mrt_210 : mrt 210 = (some .int) := rfl
theorem mal_210 : mal 210 = 0 := rfl
theorem mq_211 : mnl 211 = 2 ∧ mrt 211 = none ∧ mal 211 = 0 := ⟨rfl, rfl, rfl⟩
theorem mnl_211 : mnl 211 = 2 := rfl
theorem mrt_211 : mrt 211 = none := rfl
theorem mal_211 : mal 211 = 0 := rfl
theorem mq_212 : mnl 212 = 2 ∧ mrt 212 = none ∧ mal 212 = 0 := ⟨rfl, rfl, rfl⟩
theorem mnl_212 : mnl 212 = 2 := rfl
theorem mrt_212 : mrt 212 = none := rfl
theorem mal_212 : mal 212 = 0 := rfl
theorem mq_213 : mnl 213 = 2 ∧ mrt 213 = (some .boolean) ∧ mal 213 = 0 := ⟨rfl, rfl, rfl⟩
theorem mnl_213 : mnl 213 = 2 := rfl
theorem mrt_213 : mrt 213 = (some .boolean) := rfl
theorem mal_213 : mal 213 = 0 := rfl
theorem mq_214 : mnl 214 = 1 ∧ mrt 214 = (some .int) ∧ mal 214 = 0 := ⟨rfl, rfl, rfl⟩
theorem mnl_214 : mnl 214 = 1 := rfl
theorem mrt_214 : mrt 214 = (some .int) := rfl
theorem mal_214 : mal 214 = 0 := rfl
theorem mq_215 : mnl 215 = 4 ∧ mrt 215 = (some .boolean) ∧ mal 215 = 0 := ⟨rfl, rfl, rfl⟩
theorem mnl_215 : mnl 215 = 4 := rfl
theorem mrt_215 : mrt 215 = (some .boolean) := rfl
theorem mal_215 : mal 215 = 0 := rfl
theorem mq_216 : mnl 216 = 2 ∧ mrt 216 = (some .boolean) ∧ mal 216 = 0 := ⟨rfl, rfl, rfl⟩
theorem mnl_216 : mnl 216 = 2 := rfl
theorem mrt_216 : mrt 216 = (some .boolean) := rfl
theorem mal_216 : mal 216 = 0 := rfl
theorem mq_217 : mnl 217 = 3 ∧ mrt 217 = (some .int) ∧ mal 217 = 0 := ⟨rfl, rfl, rfl⟩
theorem mnl_217 : mnl 217 = 3 := rfl
theorem mrt_217 : mrt 217 = (some .int) := rfl
theorem mal_217 : mal 217 = 0 := rfl
theorem mq_218 : mnl 218 = 4 ∧ mrt 218 = (some .int) ∧ mal 218 = 0 := ⟨rfl, rfl, rfl⟩
theorem mnl_218 : mnl 218 = 4 := rfl
theorem mrt_218 : mrt 218 = (some .int) := rfl
theorem mal_218 : mal 218 = 0 := rfl
theorem mq_219 : mnl 219 = 4 ∧ mrt 219 = (some .int) ∧ mal 219 = 0 := ⟨rfl, rfl, rfl⟩
theorem mnl_219 : mnl 219 = 4 := rfl
theorem mrt_219 : mrt 219 = (some .int) := rfl
theorem mal_219 : mal 219 = 0 := rfl
theorem mq_220 : mnl 220 = 7 ∧ mrt 220 = (some .int) ∧ mal 220 = 0 := ⟨rfl, rfl, rfl⟩
theorem mnl_220 : mnl 220 = 7 := rfl
theorem mrt_220 : mrt 220 = (some .int) := rfl
theorem mal_220 : mal 220 = 0 := rfl
theorem mq_221 : mnl 221 = 6 ∧ mrt 221 = (some .int) ∧ mal 221 = 0 := ⟨rfl, rfl, rfl⟩
theorem mnl_221 : mnl 221 = 6 := rfl
theorem mrt_221 : mrt 221 = (some .int) := rfl
theorem mal_221 : mal 221 = 0 := rfl
theorem mq_222 : mnl 222 = 5 ∧ mrt 222 = (some .long) ∧ mal 222 = 0 := ⟨rfl, rfl, rfl⟩
theorem mnl_222 : mnl 222 = 5 := rfl
theorem mrt_222 : mrt 222 = (some .long) := rfl
theorem mal_222 : mal 222 = 0 := rfl
theorem mq_223 : mnl 223 = 7 ∧ mrt 223 = (some .int) ∧ mal 223 = 0 := ⟨rfl, rfl, rfl⟩
theorem mnl_223 : mnl 223 = 7 := rfl
theorem mrt_223 : mrt 223 = (some .int) := rfl
theorem mal_223 : mal 223 = 0 := rfl
theorem mq_224 : mnl 224 = 4 ∧ mrt 224 = (some .int) ∧ mal 224 = 0 := ⟨rfl, rfl, rfl⟩
theorem mnl_224 : mnl 224 = 4 := rfl
theorem mrt_224 : mrt 224 = (some .int) := rfl
theorem mal_224 : mal 224 = 0 := rfl
theorem mq_225 : mnl 225 = 6 ∧ mrt 225 = (some .int) ∧ mal 225 = 0 := ⟨rfl, rfl, rfl⟩
theorem mnl_225 : mnl 225 = 6 := rfl
theorem mrt_225 : mrt 225 = (some .int) := rfl
theorem mal_225 : mal 225 = 0 := rfl
theorem mq_226 : mnl 226 = 5 ∧ mrt 226 = (some .int) ∧ mal 226 = 0 := ⟨rfl, rfl, rfl⟩
theorem mnl_226 : mnl 226 = 5 := rfl
theorem mrt_226 : mrt 226 = (some .int) := rfl
theorem mal_226 : mal 226 = 0 := rfl
theorem mq_227 : mnl 227 = 2 ∧ mrt 227 = (some .boolean) ∧ mal 227 = 0 := ⟨rfl, rfl, rfl⟩
theorem mnl_227 : mnl 227 = 2 := rfl
theorem mrt_227 : mrt 227 = (some .boolean) := rfl
theorem mal_227 : mal 227 = 0 := rfl
theorem mq_228 : mnl 228 = 4 ∧ mrt 228 = (some .int) ∧ mal 228 = 0 := ⟨rfl, rfl, rfl⟩
theorem mnl_228 : mnl 228 = 4 := rfl
theorem mrt_228 : mrt 228 = (some .int) := rfl
theorem mal_228 : mal 228 = 0 := rfl
theorem mq_229 : mnl 229 = 2 ∧ mrt 229 = (some .int) ∧ mal 229 = 0 := ⟨rfl, rfl, rfl⟩
theorem mnl_229 : mnl 229 = 2 := rfl
theorem mrt_229 : mrt 229 = (some .int) := rfl
theorem mal_229 : mal 229 = 0 := rfl
theorem mq_230 : mnl 230 = 5 ∧ mrt 230 = (some .boolean) ∧ mal 230 = 0 := ⟨rfl, rfl, rfl⟩
theorem mnl_230 : mnl 230 = 5 := rfl
theorem mrt_230 : mrt 230 = (some .boolean) := rfl
theorem mal_230 : mal 230 = 0 := rfl
theorem mq_231 : mnl 231 = 5 ∧ mrt 231 = (some .int) ∧ mal 231 = 0 := ⟨rfl, rfl, rfl⟩
theorem mnl_231 : mnl 231 = 5 := rfl
theorem mrt_231 : mrt 231 = (some .int) := rfl
theorem mal_231 : mal 231 = 0 := rfl
theorem mq_232 : mnl 232 = 4 ∧ mrt 232 = (some .int) ∧ mal 232 = 0 := ⟨rfl, rfl, rfl⟩
theorem mnl_232 : mnl 232 = 4 := rfl
theorem mrt_232 : mrt 232 = (some .int) := rfl
theorem mal_232 : mal 232 = 0 := rfl
theorem mq_233 : mnl 233 = 3 ∧ mrt 233 = (some .boolean) ∧ mal 233 = 0 := ⟨rfl, rfl, rfl⟩
theorem mnl_233 : mnl 233 = 3 := rfl
theorem mrt_233 : mrt 233 = (some .boolean) := rfl
theorem mal_233 : mal 233 = 0 := rfl
theorem mq_234 : mnl 234 = 3 ∧ mrt 234 = (some .int) ∧ mal 234 = 0 := ⟨rfl, rfl, rfl⟩
theorem mnl_234 : mnl 234 = 3 := rfl
theorem mrt_234 : mrt 234 = (some .int) := rfl
theorem mal_234 : mal 234 = 0 := rfl
theorem mq_235 : mnl 235 = 5 ∧ mrt 235 = (some .int) ∧ mal 235 = 0 := ⟨rfl, rfl, rfl⟩
theorem mnl_235 : mnl 235 = 5 := rfl
theorem mrt_235 : mrt 235 = (some .int) := rfl
theorem mal_235 : mal 235 = 0 := rfl
theorem mq_236 : mnl 236 = 8 ∧ mrt 236 = (some .int) ∧ mal 236 = 0 := ⟨rfl, rfl, rfl⟩
theorem mnl_236 : mnl 236 = 8 := rfl
theorem mrt_236 : mrt 236 = (some .int) := rfl
theorem mal_236 : mal 236 = 0 := rfl
theorem mq_237 : mnl 237 = 4 ∧ mrt 237 = (some .int) ∧ mal 237 = 0 := ⟨rfl, rfl, rfl⟩
theorem mnl_237 : mnl 237 = 4 := rfl
theorem mrt_237 : mrt 237 = (some .int) := rfl
theorem mal_237 : mal 237 = 0 := rfl
theorem mq_238 : mnl 238 = 7 ∧ mrt 238 = (some .int) ∧ mal 238 = 0 := ⟨rfl, rfl, rfl⟩
theorem mnl_238 : mnl 238 = 7 := rfl
theorem mrt_238 : mrt 238 = (some .int) := rfl
theorem mal_238 : mal 238 = 0 := rfl
theorem mq_239 : mnl 239 = 4 ∧ mrt 239 = (some .int) ∧ mal 239 = 0 := ⟨rfl, rfl, rfl⟩
theorem mnl_239 : mnl 239 = 4 := rfl
theorem mrt_239 : mrt 239 = (some .int) := rfl
theorem mal_239 : mal 239 = 0 := rfl
theorem mq_240 : mnl 240 = 5 ∧ mrt 240 = (some .int) ∧ mal 240 = 0 := ⟨rfl, rfl, rfl⟩
theorem mnl_240 : mnl 240 = 5 := rfl
theorem mrt_240 : mrt 240 = (some .int) := rfl
theorem mal_240 : mal 240 = 0 := rfl
theorem mq_241 : mnl 241 = 4 ∧ mrt 241 = (some .int) ∧ mal 241 = 0 := ⟨rfl, rfl, rfl⟩
theorem mnl_241 : mnl 241 = 4 := rfl
theorem mrt_241 : mrt 241 = (some .int) := rfl
theorem mal_241 : mal 241 = 0 := rfl
theorem mq_242 : mnl 242 = 11 ∧ mrt 242 = (some .int) ∧ mal 242 = 0 := ⟨rfl, rfl, rfl⟩
theorem mnl_242 : mnl 242 = 11 := rfl
theorem mrt_242 : mrt 242 = (some .int) := rfl
theorem mal_242 : mal 242 = 0 := rfl
theorem mq_243 : mnl 243 = 3 ∧ mrt 243 = (some .boolean) ∧ mal 243 = 0 := ⟨rfl, rfl, rfl⟩
theorem mnl_243 : mnl 243 = 3 := rfl
theorem mrt_243 : mrt 243 = (some .boolean) := rfl
theorem mal_243 : mal 243 = 0 := rfl
theorem mq_244 : mnl 244 = 4 ∧ mrt 244 = (some .int) ∧ mal 244 = 0 := ⟨rfl, rfl, rfl⟩
theorem mnl_244 : mnl 244 = 4 := rfl
theorem mrt_244 : mrt 244 = (some .int) := rfl
theorem mal_244 : mal 244 = 0 := rfl
theorem mq_245 : mnl 245 = 4 ∧ mrt 245 = (some .int) ∧ mal 245 = 0 := ⟨rfl, rfl, rfl⟩
theorem mnl_245 : mnl 245 = 4 := rfl
theorem mrt_245 : mrt 245 = (some .int) := rfl
theorem mal_245 : mal 245 = 0 := rfl
theorem mq_246 : mnl 246 = 7 ∧ mrt 246 = (some .int) ∧ mal 246 = 0 := ⟨rfl, rfl, rfl⟩
theorem mnl_246 : mnl 246 = 7 := rfl
theorem mrt_246 : mrt 246 = (some .int) := rfl
theorem mal_246 : mal 246 = 0 := rfl
theorem mq_247 : mnl 247 = 2 ∧ mrt 247 = (some .int) ∧ mal 247 = 0 := ⟨rfl, rfl, rfl⟩
theorem mnl_247 : mnl 247 = 2 := rfl
theorem mrt_247 : mrt 247 = (some .int) := rfl
theorem mal_247 : mal 247 = 0 := rfl
theorem mq_248 : mnl 248 = 6 ∧ mrt 248 = (some .int) ∧ mal 248 = 0 := ⟨rfl, rfl, rfl⟩
theorem mnl_248 : mnl 248 = 6 := rfl
theorem mrt_248 : mrt 248 = (some .int) := rfl
theorem mal_248 : mal 248 = 0 := rfl
theorem mq_249 : mnl 249 = 5 ∧ mrt 249 = (some .int) ∧ mal 249 = 0 := ⟨rfl, rfl, rfl⟩
theorem mnl_249 : mnl 249 = 5 := rfl
theorem mrt_249 : mrt 249 = (some .int) := rfl
theorem mal_249 : mal 249 = 0 := rfl
theorem mq_250 : mnl 250 = 6 ∧ mrt 250 = (some .int) ∧ mal 250 = 0 := ⟨rfl, rfl, rfl⟩
theorem mnl_250 : mnl 250 = 6 := rfl
theorem mrt_250 : mrt 250 = (some .int) := rfl
theorem mal_250 : mal 250 = 0 := rfl
theorem mq_251 : mnl 251 = 5 ∧ mrt 251 = (some .int) ∧ mal 251 = 0 := ⟨rfl, rfl, rfl⟩
theorem mnl_251 : mnl 251 = 5 := rfl
theorem mrt_251 : mrt 251 = (some .int) := rfl
theorem mal_251 : mal 251 = 0 := rfl
theorem mq_252 : mnl 252 = 2 ∧ mrt 252 = (some .int) ∧ mal 252 = 0 := ⟨rfl, rfl, rfl⟩
theorem mnl_252 : mnl 252 = 2 := rfl
theorem mrt_252 : mrt 252 = (some .int) := rfl
theorem mal_252 : mal 252 = 0 := rfl
theorem mq_253 : mnl 253 = 4 ∧ mrt 253 = (some .int) ∧ mal 253 = 0 := ⟨rfl, rfl, rfl⟩
theorem mnl_253 : mnl 253 = 4 := rfl
theorem mrt_253 : mrt 253 = (some .int) := rfl
theorem mal_253 : mal 253 = 0 := rfl
theorem mq_254 : mnl 254 = 9 ∧ mrt 254 = (some .int) ∧ mal 254 = 0 := ⟨rfl, rfl, rfl⟩
theorem mnl_254 : mnl 254 = 9 := rfl
theorem mrt_254 : mrt 254 = (some .int) := rfl
theorem mal_254 : mal 254 = 0 := rfl
theorem mq_255 : mnl 255 = 4 ∧ mrt 255 = (some .int) ∧ mal 255 = 0 := ⟨rfl, rfl, rfl⟩
theorem mnl_255 : mnl 255 = 4 := rfl
theorem mrt_255 : mrt 255 = (some .int) := rfl
theorem mal_255 : mal 255 = 0 := rfl
theorem mq_256 : mnl 256 = 3 ∧ mrt 256 = (some .int) ∧ mal 256 = 0 := ⟨rfl, rfl, rfl⟩
theorem mnl_256 : mnl 256 = 3 := rfl
theorem mrt_256 : mrt 256 = (some .int) := rfl
theorem mal_256 : mal 256 = 0 := rfl
theorem mq_257 : mnl 257 = 4 ∧ mrt 257 = (some .int) ∧ mal 257 = 0 := ⟨rfl, rfl, rfl⟩
theorem mnl_257 : mnl 257 = 4 := rfl
theorem mrt_257 : mrt 257 = (some .int) := rfl
theorem mal_257 : mal 257 = 0 := rfl
theorem mq_258 : mnl 258 = 3 ∧ mrt 258 = (some .int) ∧ mal 258 = 0 := ⟨rfl, rfl, rfl⟩
theorem mnl_258 : mnl 258 = 3 := rfl
theorem mrt_258 : mrt 258 = (some .int) := rfl
theorem mal_258 : mal 258 = 0 := rfl
theorem mq_259 : mnl 259 = 5 ∧ mrt 259 = (some .int) ∧ mal 259 = 0 := ⟨rfl, rfl, rfl⟩
theorem mnl_259 : mnl 259 = 5 := rfl
theorem mrt_259 : mrt 259 = (some .int) := rfl
theorem mal_259 : mal 259 = 0 := rfl
theorem mq_260 : mnl 260 = 2 ∧ mrt 260 = (some .long) ∧ mal 260 = 0 := ⟨rfl, rfl, rfl⟩
theorem mnl_260 : mnl 260 = 2 := rfl
theorem mrt_260 : mrt 260 = (some .long) := rfl
theorem mal_260 : mal 260 = 0 := rfl
theorem mq_261 : mnl 261 = 2 ∧ mrt 261 = (some .int) ∧ mal 261 = 0 := ⟨rfl, rfl, rfl⟩
theorem mnl_261 : mnl 261 = 2 := rfl
theorem mrt_261 : mrt 261 = (some .int) := rfl
theorem mal_261 : mal 261 = 0 := rfl
theorem mq_262 : mnl 262 = 2 ∧ mrt 262 = (some .boolean) ∧ mal 262 = 0 := ⟨rfl, rfl, rfl⟩
theorem mnl_262 : mnl 262 = 2 := rfl
theorem mrt_262 : mrt 262 = (some .boolean) := rfl
theorem mal_262 : mal 262 = 0 := rfl
theorem mq_263 : mnl 263 = 5 ∧ mrt 263 = (some .int) ∧ mal 263 = 0 := ⟨rfl, rfl, rfl⟩
theorem mnl_263 : mnl 263 = 5 := rfl
theorem mrt_263 : mrt 263 = (some .int) := rfl
theorem mal_263 : mal 263 = 0 := rfl
theorem mq_264 : mnl 264 = 4 ∧ mrt 264 = (some .int) ∧ mal 264 = 0 := ⟨rfl, rfl, rfl⟩
theorem mnl_264 : mnl 264 = 4 := rfl
theorem mrt_264 : mrt 264 = (some .int) := rfl
theorem mal_264 : mal 264 = 0 := rfl
theorem mq_265 : mnl 265 = 7 ∧ mrt 265 = (some .int) ∧ mal 265 = 0 := ⟨rfl, rfl, rfl⟩
theorem mnl_265 : mnl 265 = 7 := rfl
theorem mrt_265 : mrt 265 = (some .int) := rfl
theorem mal_265 : mal 265 = 0 := rfl
theorem mq_266 : mnl 266 = 8 ∧ mrt 266 = (some .int) ∧ mal 266 = 0 := ⟨rfl, rfl, rfl⟩
theorem mnl_266 : mnl 266 = 8 := rfl
theorem mrt_266 : mrt 266 = (some .int) := rfl
theorem mal_266 : mal 266 = 0 := rfl
theorem mq_267 : mnl 267 = 3 ∧ mrt 267 = (some .int) ∧ mal 267 = 0 := ⟨rfl, rfl, rfl⟩
theorem mnl_267 : mnl 267 = 3 := rfl
theorem mrt_267 : mrt 267 = (some .int) := rfl
theorem mal_267 : mal 267 = 0 := rfl
theorem mq_268 : mnl 268 = 1 ∧ mrt 268 = (some .int) ∧ mal 268 = 0 := ⟨rfl, rfl, rfl⟩
theorem mnl_268 : mnl 268 = 1 := rfl
theorem mrt_268 : mrt 268 = (some .int) := rfl
theorem mal_268 : mal 268 = 0 := rfl
theorem mq_269 : mnl 269 = 2 ∧ mrt 269 = (some .int) ∧ mal 269 = 0 := ⟨rfl, rfl, rfl⟩
theorem mnl_269 : mnl 269 = 2 := rfl
theorem mrt_269 : mrt 269 = (some .int) := rfl
theorem mal_269 : mal 269 = 0 := rfl
theorem mq_270 : mnl 270 = 1 ∧ mrt 270 = (some .int) ∧ mal 270 = 0 := ⟨rfl, rfl, rfl⟩
theorem mnl_270 : mnl 270 = 1 := rfl
theorem mrt_270 : mrt 270 = (some .int) := rfl
theorem mal_270 : mal 270 = 0 := rfl
theorem mq_271 : mnl 271 = 2 ∧ mrt 271 = (some .int) ∧ mal 271 = 0 := ⟨rfl, rfl, rfl⟩
theorem mnl_271 : mnl 271 = 2 := rfl
theorem mrt_271 : mrt 271 = (some .int) := rfl
theorem mal_271 : mal 271 = 0 := rfl
theorem mq_272 : mnl 272 = 2 ∧ mrt 272 = (some .int) ∧ mal 272 = 0 := ⟨rfl, rfl, rfl⟩
theorem mnl_272 : mnl 272 = 2 := rfl
theorem mrt_272 : mrt 272 = (some .int) := rfl
theorem mal_272 : mal 272 = 0 := rfl
theorem mq_273 : mnl 273 = 1 ∧ mrt 273 = (some .int) ∧ mal 273 = 0 := ⟨rfl, rfl, rfl⟩
theorem mnl_273 : mnl 273 = 1 := rfl
theorem mrt_273 : mrt 273 = (some .int) := rfl
theorem mal_273 : mal 273 = 0 := rfl
theorem mq_274 : mnl 274 = 2 ∧ mrt 274 = (some .char) ∧ mal 274 = 0 := ⟨rfl, rfl, rfl⟩
theorem mnl_274 : mnl 274 = 2 := rfl
theorem mrt_274 : mrt 274 = (some .char) := rfl
theorem mal_274 : mal 274 = 0 := rfl
theorem mq_275 : mnl 275 = 1 ∧ mrt 275 = (some .byte) ∧ mal 275 = 0 := ⟨rfl, rfl, rfl⟩
theorem mnl_275 : mnl 275 = 1 := rfl
theorem mrt_275 : mrt 275 = (some .byte) := rfl
theorem mal_275 : mal 275 = 0 := rfl
theorem mq_276 : mnl 276 = 1 ∧ mrt 276 = (some .boolean) ∧ mal 276 = 0 := ⟨rfl, rfl, rfl⟩
theorem mnl_276 : mnl 276 = 1 := rfl
theorem mrt_276 : mrt 276 = (some .boolean) := rfl
theorem mal_276 : mal 276 = 0 := rfl
theorem mq_277 : mnl 277 = 2 ∧ mrt 277 = none ∧ mal 277 = 0 := ⟨rfl, rfl, rfl⟩
theorem mnl_277 : mnl 277 = 2 := rfl
theorem mrt_277 : mrt 277 = none := rfl
theorem mal_277 : mal 277 = 0 := rfl
theorem mq_278 : mnl 278 = 2 ∧ mrt 278 = (some .char) ∧ mal 278 = 0 := ⟨rfl, rfl, rfl⟩
theorem mnl_278 : mnl 278 = 2 := rfl
theorem mrt_278 : mrt 278 = (some .char) := rfl
theorem mal_278 : mal 278 = 0 := rfl
theorem mq_279 : mnl 279 = 2 ∧ mrt 279 = (some .char) ∧ mal 279 = 0 := ⟨rfl, rfl, rfl⟩
theorem mnl_279 : mnl 279 = 2 := rfl
theorem mrt_279 : mrt 279 = (some .char) := rfl
theorem mal_279 : mal 279 = 0 := rfl
theorem mq_280 : mnl 280 = 1 ∧ mrt 280 = (some .int) ∧ mal 280 = 0 := ⟨rfl, rfl, rfl⟩
theorem mnl_280 : mnl 280 = 1 := rfl
theorem mrt_280 : mrt 280 = (some .int) := rfl
theorem mal_280 : mal 280 = 0 := rfl
theorem mq_281 : mnl 281 = 2 ∧ mrt 281 = (some .char) ∧ mal 281 = 0 := ⟨rfl, rfl, rfl⟩
theorem mnl_281 : mnl 281 = 2 := rfl
theorem mrt_281 : mrt 281 = (some .char) := rfl
theorem mal_281 : mal 281 = 0 := rfl
theorem mq_282 : mnl 282 = 2 ∧ mrt 282 = none ∧ mal 282 = 0 := ⟨rfl, rfl, rfl⟩
theorem mnl_282 : mnl 282 = 2 := rfl
theorem mrt_282 : mrt 282 = none := rfl
theorem mal_282 : mal 282 = 0 := rfl
theorem mq_283 : mnl 283 = 4 ∧ mrt 283 = none ∧ mal 283 = 0 := ⟨rfl, rfl, rfl⟩
theorem mnl_283 : mnl 283 = 4 := rfl
theorem mrt_283 : mrt 283 = none := rfl
theorem mal_283 : mal 283 = 0 := rfl
theorem mq_284 : mnl 284 = 3 ∧ mrt 284 = (some .int) ∧ mal 284 = 0 := ⟨rfl, rfl, rfl⟩
theorem mnl_284 : mnl 284 = 3 := rfl
theorem mrt_284 : mrt 284 = (some .int) := rfl
theorem mal_284 : mal 284 = 0 := rfl
theorem mq_285 : mnl 285 = 4 ∧ mrt 285 = (some .boolean) ∧ mal 285 = 0 := ⟨rfl, rfl, rfl⟩
theorem mnl_285 : mnl 285 = 4 := rfl
theorem mrt_285 : mrt 285 = (some .boolean) := rfl
theorem mal_285 : mal 285 = 0 := rfl
