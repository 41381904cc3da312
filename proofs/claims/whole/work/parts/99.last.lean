theorem last_ok : True := trivial
