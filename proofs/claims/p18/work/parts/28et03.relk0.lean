theorem some_int {a b : Int32} (h : (some (.int a) : Option Value) = some (.int b)) : a = b := Value.int.inj (Option.some.inj h)
