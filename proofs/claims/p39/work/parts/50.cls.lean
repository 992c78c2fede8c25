/-! the classes, their fields in order (printed by program) -/
def F_Main : u_T := fun k => match k with
  | 0 => ("Siegelines", "live", "LSiegelines$Siege;", true)
  | _ => ("Siegelines", "trial", "LSiegelines$Siege;", true)
def F_Siege : u_T := fun k => match k with
  | 0 => ("Siegelines$Siege", "ground", "LSiegelines$Ground;", true)
  | 1 => ("Siegelines$Siege", "guns", "[LSiegelines$Gun;", true)
  | 2 => ("Siegelines$Siege", "companies", "[LSiegelines$Company;", true)
  | 3 => ("Siegelines$Siege", "mines", "[LSiegelines$Mine;", true)
  | 4 => ("Siegelines$Siege", "besiegers", "LSiegelines$Side;", true)
  | 5 => ("Siegelines$Siege", "garrison", "LSiegelines$Side;", true)
  | 6 => ("Siegelines$Siege", "post", "LSiegelines$Post;", true)
  | 7 => ("Siegelines$Siege", "gunCount", "I", false)
  | 8 => ("Siegelines$Siege", "companyCount", "I", false)
  | 9 => ("Siegelines$Siege", "mineCount", "I", false)
  | 10 => ("Siegelines$Siege", "clock", "I", false)
  | 11 => ("Siegelines$Siege", "phase", "I", false)
  | 12 => ("Siegelines$Siege", "honours", "I", false)
  | 13 => ("Siegelines$Siege", "falls", "I", false)
  | 14 => ("Siegelines$Siege", "people", "I", false)
  | 15 => ("Siegelines$Siege", "supply", "I", false)
  | _ => ("Siegelines$Siege", "fires", "I", false)
def F_Ground : u_T := fun k => match k with
  | 0 => ("Siegelines$Ground", "height", "[I", true)
  | 1 => ("Siegelines$Ground", "soil", "[I", true)
  | 2 => ("Siegelines$Ground", "work", "[I", true)
  | 3 => ("Siegelines$Ground", "firm", "[I", true)
  | 4 => ("Siegelines$Ground", "toil", "[I", true)
  | 5 => ("Siegelines$Ground", "column", "[I", true)
  | 6 => ("Siegelines$Ground", "line", "[I", true)
  | 7 => ("Siegelines$Ground", "steps", "[I", true)
  | 8 => ("Siegelines$Ground", "queue", "[I", true)
  | 9 => ("Siegelines$Ground", "wide", "I", false)
  | 10 => ("Siegelines$Ground", "high", "I", false)
  | 11 => ("Siegelines$Ground", "count", "I", false)
  | 12 => ("Siegelines$Ground", "camp", "I", false)
  | _ => ("Siegelines$Ground", "gate", "I", false)
def F_Gun : u_T := fun k => match k with
  | 0 => ("Siegelines$Gun", "side", "I", false)
  | 1 => ("Siegelines$Gun", "square", "I", false)
  | 2 => ("Siegelines$Gun", "calibre", "I", false)
  | 3 => ("Siegelines$Gun", "heat", "I", false)
  | 4 => ("Siegelines$Gun", "hits", "I", false)
  | 5 => ("Siegelines$Gun", "state", "I", false)
  | _ => ("Siegelines$Gun", "aim", "I", false)
def F_Company : u_T := fun k => match k with
  | 0 => ("Siegelines$Company", "side", "I", false)
  | 1 => ("Siegelines$Company", "square", "I", false)
  | 2 => ("Siegelines$Company", "men", "I", false)
  | 3 => ("Siegelines$Company", "tired", "I", false)
  | 4 => ("Siegelines$Company", "order", "I", false)
  | _ => ("Siegelines$Company", "goal", "I", false)
def F_Mine : u_T := fun k => match k with
  | 0 => ("Siegelines$Mine", "squares", "[I", true)
  | 1 => ("Siegelines$Mine", "side", "I", false)
  | 2 => ("Siegelines$Mine", "length", "I", false)
  | 3 => ("Siegelines$Mine", "direction", "I", false)
  | 4 => ("Siegelines$Mine", "charge", "I", false)
  | 5 => ("Siegelines$Mine", "toil", "I", false)
  | _ => ("Siegelines$Mine", "state", "I", false)
def F_Side : u_T := fun k => match k with
  | 0 => ("Siegelines$Side", "powder", "I", false)
  | 1 => ("Siegelines$Side", "food", "I", false)
  | 2 => ("Siegelines$Side", "gabions", "I", false)
  | 3 => ("Siegelines$Side", "morale", "I", false)
  | 4 => ("Siegelines$Side", "hunger", "I", false)
  | 5 => ("Siegelines$Side", "shots", "I", false)
  | 6 => ("Siegelines$Side", "spent", "I", false)
  | 7 => ("Siegelines$Side", "losses", "I", false)
  | 8 => ("Siegelines$Side", "won", "I", false)
  | 9 => ("Siegelines$Side", "sick", "I", false)
  | _ => ("Siegelines$Side", "brought", "I", false)
def F_Post : u_T := fun k => match k with
  | 0 => ("Siegelines$Post", "daysOut", "[I", true)
  | 1 => ("Siegelines$Post", "fate", "[I", true)
  | 2 => ("Siegelines$Post", "sent", "I", false)
  | 3 => ("Siegelines$Post", "through", "I", false)
  | 4 => ("Siegelines$Post", "days", "I", false)
  | 5 => ("Siegelines$Post", "isSetOut", "Z", false)
  | _ => ("Siegelines$Post", "isThere", "Z", false)
def zCl : List vw_C := [("Siegelines", F_Main, 2), ("Siegelines$Siege", F_Siege, 17), ("Siegelines$Ground", F_Ground, 14), ("Siegelines$Gun", F_Gun, 7), ("Siegelines$Company", F_Company, 6), ("Siegelines$Mine", F_Mine, 7), ("Siegelines$Side", F_Side, 11), ("Siegelines$Post", F_Post, 7)]
def zT_Main : List FieldType := [.object "Siegelines$Siege", .object "Siegelines$Siege"]
def zT_Siege : List FieldType := [.object "Siegelines$Ground", .array (.object "Siegelines$Gun"), .array (.object "Siegelines$Company"), .array (.object "Siegelines$Mine"), .object "Siegelines$Side", .object "Siegelines$Side", .object "Siegelines$Post", .int, .int, .int, .int, .int, .int, .int, .int, .int, .int]
def zT_Ground : List FieldType := [.array .int, .array .int, .array .int, .array .int, .array .int, .array .int, .array .int, .array .int, .array .int, .int, .int, .int, .int, .int]
def zT_Gun : List FieldType := [.int, .int, .int, .int, .int, .int, .int]
def zT_Company : List FieldType := [.int, .int, .int, .int, .int, .int]
def zT_Mine : List FieldType := [.array .int, .int, .int, .int, .int, .int, .int]
def zT_Side : List FieldType := [.int, .int, .int, .int, .int, .int, .int, .int, .int, .int, .int]
def zT_Post : List FieldType := [.array .int, .array .int, .int, .int, .int, .boolean, .boolean]
def zFt : Nat → List FieldType := fun k => match k with
  | 0 => zT_Main
  | 1 => zT_Siege
  | 2 => zT_Ground
  | 3 => zT_Gun
  | 4 => zT_Company
  | 5 => zT_Mine
  | 6 => zT_Side
  | 7 => zT_Post
  | _ => []
def zic (E : Nat) : Nat := if E = 86 then 34 else if E = 43 then 60 else 23
