theorem the_last : True := trivial
