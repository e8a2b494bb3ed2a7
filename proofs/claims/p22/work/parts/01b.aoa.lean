/-- arrays of arrays of a number type are there, said of a state (as va_AO says it of arrays of objects) -/
def va_AOA (ty : FieldType) (U : State) : Prop := (Cond.arrayOver (.array ty)).before #[] U = true
theorem va_AOA.of {ty : FieldType} {a : Array Value} {U : State} (h : (Cond.arrayOver (.array ty)).before a U = true) : va_AOA ty U := h
theorem va_AOA.use {ty : FieldType} {a : Array Value} {U : State} (h : va_AOA ty U) : (Cond.arrayOver (.array ty)).before a U = true := h
