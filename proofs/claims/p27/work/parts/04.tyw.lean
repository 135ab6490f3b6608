abbrev tyW (cI cL cR : ClassId) : List (ClassId × FieldType) := [(cI, .int), (cL, .object "Festoon$Lantern"), (cR, .object "Festoon$Raft")]
